def f_M_wrongHere_L23 (v : T_M) (k23_65 : Int32 → Option (Int32)) : Nat → Int32 → Int32 → Option (Int32)
  | 0, _, _ => none
  | n23 + 1, x3, x4 =>
    (if (8 : Int32) ≤ x4 then (k23_65 x3) else (if x3 = (0 : Int32) then (nm (x4 + (1 : Int32)) fun (x8 : Int32) => (f_M_wrongHere_L23 v k23_65 n23 (0 : Int32) x8)) else (if ix ((4 : Int32) + x4) 314 then (if ix ((12 : Int32) + x4) 314 then (if ((M_s (M_rn v)) (((4 : Int32) + x4)).toNatClampNeg) = ((M_s (M_rn v)) (((12 : Int32) + x4)).toNatClampNeg) then (nm (x4 + (1 : Int32)) fun (x13 : Int32) => (f_M_wrongHere_L23 v k23_65 n23 (1 : Int32) x13)) else (nm (x4 + (1 : Int32)) fun (x12 : Int32) => (f_M_wrongHere_L23 v k23_65 n23 (0 : Int32) x12))) else none) else none)))
def f_M_wrongHere_L67 (v : T_M) (k67_109 : Int32 → Option (Int32)) : Nat → Int32 → Int32 → Option (Int32)
  | 0, _, _ => none
  | n67 + 1, x14, x15 =>
    (if (4 : Int32) ≤ x15 then (k67_109 x14) else (if x14 = (0 : Int32) then (nm (x15 + (1 : Int32)) fun (x19 : Int32) => (f_M_wrongHere_L67 v k67_109 n67 (0 : Int32) x19)) else (if ix ((20 : Int32) + x15) 314 then (if ix ((24 : Int32) + x15) 314 then (if ((M_s (M_rn v)) (((20 : Int32) + x15)).toNatClampNeg) = ((M_s (M_rn v)) (((24 : Int32) + x15)).toNatClampNeg) then (nm (x15 + (1 : Int32)) fun (x24 : Int32) => (f_M_wrongHere_L67 v k67_109 n67 (1 : Int32) x24)) else (nm (x15 + (1 : Int32)) fun (x23 : Int32) => (f_M_wrongHere_L67 v k67_109 n67 (0 : Int32) x23))) else none) else none)))
def f_M_wrongHere_L171 (v : T_M) (k171_226 : Option (Int32)) (k171_235 : Option (Int32)) : Nat → Int32 → Option (Int32)
  | 0, _ => none
  | n171 + 1, x30 =>
    (if ((M_s (M_rn v)) (112 : Int32).toNatClampNeg) ≤ x30 then (k171_235) else (if ix ((114 : Int32) + x30) 314 then (if ix ((130 : Int32) + x30) 314 then (if ((M_s (M_rn v)) (((114 : Int32) + x30)).toNatClampNeg) = ((M_s (M_rn v)) (((130 : Int32) + x30)).toNatClampNeg) then (if ix ((122 : Int32) + x30) 314 then (if ix ((138 : Int32) + x30) 314 then (if ((M_s (M_rn v)) (((122 : Int32) + x30)).toNatClampNeg) = ((M_s (M_rn v)) (((138 : Int32) + x30)).toNatClampNeg) then (nm (x30 + (1 : Int32)) fun (x38 : Int32) => (f_M_wrongHere_L171 v k171_226 k171_235 n171 x38)) else (k171_226)) else none) else none) else (k171_226)) else none) else none))
def f_M_wrongHere (v : T_M) : Option (Int32) :=
  (nm (fun (y1 : Int32) => ((f_M_wrongHere_L23 v (fun (x5 : Int32) => (f_M_wrongHere_L67 v (fun (x16 : Int32) => (if x16 = (0 : Int32) then (some (4 : Int32)) else (if ((M_s (M_rn v)) (2 : Int32).toNatClampNeg) = ((M_s (M_rn v)) (3 : Int32).toNatClampNeg) then (if (0 : Int32) < ((M_s (M_rn v)) (86 : Int32).toNatClampNeg) then (some (5 : Int32)) else (if (0 : Int32) < ((M_s (M_rn v)) (103 : Int32).toNatClampNeg) then (some (5 : Int32)) else (if ((M_s (M_rn v)) (112 : Int32).toNatClampNeg) = ((M_s (M_rn v)) (113 : Int32).toNatClampNeg) then (f_M_wrongHere_L171 v (some (6 : Int32)) (some (0 : Int32)) LF (0 : Int32)) else (some (5 : Int32))))) else (some (5 : Int32))))) LF x5 (0 : Int32))) LF y1 (0 : Int32)) : Option (Int32))) fun J2 => (if ((M_s (M_rn v)) (0 : Int32).toNatClampNeg) = ((M_s (M_rn v)) (1 : Int32).toNatClampNeg) then (J2 (1 : Int32)) else (J2 (0 : Int32))))
abbrev rm_M_wrongHere : Room := { frames := 0, cells := 0, slots := 0, locals := 0 }
set_option maxRecDepth 100000 in
set_option maxHeartbeats 4000000 in
theorem m_M_wrongHere (l : Launch) (D : va_G) (K : Nat → ClassId) (q : Nat → Nat) (v : T_M) {r_ : Int32} (hf : f_M_wrongHere v = some r_) : MI l yX10_wrongHere cX10_wrongHere 3 (some .int) rm_M_wrongHere D K [.ref (q 0)] (cl_M K q v) r_ (cl_M K q v) := by
  refine MI_of (loc0 := [(0, .ref (q 0))]) (by decide +kernel) rfl (Nat.le_of_ble_eq_true rfl) ?_
  intro p e s m args below meth c A cx
  unfold f_M_wrongHere at hf
  refine r_ws (ws' := [((q 0), ob 9 [.int (M_thrown v), .ref (q 1), .int (M_taped (M_tp v)), .ref (q 2), .ref (q 3), .ref (q 4), .ref (q 5), .ref (q 6), .ref (q 7), .ref (q 8), .ref (q 9), .ref (q 10), .ref (q 11), .ref (q 12), .ref (q 13), .ref (q 14), .int (M_lines (M_rd v)), .int (M_size (M_rd v)), .int (M_at (M_rd v)), .int (M_place (M_rd v)), .int (M_sort (M_rd v)), .int (M_value (M_rd v)), .int (M_fault (M_rd v)), .int (M_faultPlace (M_rd v)), .int (M_lastFault (M_lf v)), .int (M_lastPlace (M_lf v)), .ref (q 15), .ref (q 16), .ref (q 17), .ref (q 18), .int (M_hasImage (M_im v)), .int (M_spanNow (M_rn v)), .ref (q 19), .int (M_placeThen (M_rn v)), .int (M_alonePlace (M_al v)), .int (M_aloneSteps (M_al v)), .int (M_aloneOut (M_al v)), .ref (q 20), .ref (q 21), .ref (q 22), .ref (q 23), .int (M_shotAlarm (M_ex v)), .int (M_drawn (M_ex v))]), ((q 1), aI K 700 (M_tape (M_tp v))), ((q 2), aI K 20 (M_number (M_cd v))), ((q 3), aZ K 5 (M_isTold (M_rd v))), ((q 4), aI K 80 (M_codeSort (M_cd v))), ((q 5), aI K 80 (M_codeA (M_cd v))), ((q 6), aI K 80 (M_codeB (M_cd v))), ((q 7), aI K 80 (M_codeC (M_cd v))), ((q 8), aI K 80 (M_codeName (M_cd v))), ((q 9), aI K 80 (M_codePlace (M_cd v))), ((q 10), aI K 80 (M_codeTo (M_cd v))), ((q 11), aI K 280 (M_labelName (M_cd v))), ((q 12), aI K 280 (M_labelAt (M_cd v))), ((q 13), aI K 64 (M_data (M_cd v))), ((q 14), aZ K 32 (M_hasData (M_rd v))), ((q 15), aI K 314 (M_s (M_rn v))), ((q 16), aI K 314 (M_aside (M_ex v))), ((q 17), aI K 314 (M_further (M_ex v))), ((q 18), aI K 314 (M_image (M_im v))), ((q 19), aI K 3 (M_sizeNow (M_rn v))), ((q 20), aI K 8 (M_aloneRegister (M_al v))), ((q 21), aI K 4 (M_aloneReal (M_al v))), ((q 22), aI K 32 (M_aloneMemory (M_al v))), ((q 23), aI K 999 (M_aloneOutput (M_al v)))]) rfl ?_
  refine r_aload_n (pc := 0) cx dX10_wrongHere_0 0 rfl ?_
  refine r_get (pc := 1) cx cf_X10 0 26 rfl (by decide) rfl wd_1342 dX10_wrongHere_1 ?_
  refine r_iconst (pc := 4) cx dX10_wrongHere_4 ic_0 ?_
  refine r_iald (pc := 5) cx 15 rfl (by decide) dX10_wrongHere_5 ?_
  refine r_aload_n (pc := 6) cx dX10_wrongHere_6 0 rfl ?_
  refine r_get (pc := 7) cx cf_X10 0 26 rfl (by decide) rfl wd_1342 dX10_wrongHere_7 ?_
  refine r_iconst (pc := 10) cx dX10_wrongHere_10 ic_1 ?_
  refine r_iald (pc := 11) cx 15 rfl (by decide) dX10_wrongHere_11 ?_
  obtain ⟨J2, eJ2, hf⟩ := nm_of hf
  have hJ2 : ∀ (y1 : Int32), J2 y1 = some r_ → WW p l e rm_M_wrongHere s m args below meth c D A 3 0 0 (MQ below (QI D K A r_ (cl_M K q v)) args s 0 0 A) ([((q 0), ob 9 [.int (M_thrown v), .ref (q 1), .int (M_taped (M_tp v)), .ref (q 2), .ref (q 3), .ref (q 4), .ref (q 5), .ref (q 6), .ref (q 7), .ref (q 8), .ref (q 9), .ref (q 10), .ref (q 11), .ref (q 12), .ref (q 13), .ref (q 14), .int (M_lines (M_rd v)), .int (M_size (M_rd v)), .int (M_at (M_rd v)), .int (M_place (M_rd v)), .int (M_sort (M_rd v)), .int (M_value (M_rd v)), .int (M_fault (M_rd v)), .int (M_faultPlace (M_rd v)), .int (M_lastFault (M_lf v)), .int (M_lastPlace (M_lf v)), .ref (q 15), .ref (q 16), .ref (q 17), .ref (q 18), .int (M_hasImage (M_im v)), .int (M_spanNow (M_rn v)), .ref (q 19), .int (M_placeThen (M_rn v)), .int (M_alonePlace (M_al v)), .int (M_aloneSteps (M_al v)), .int (M_aloneOut (M_al v)), .ref (q 20), .ref (q 21), .ref (q 22), .ref (q 23), .int (M_shotAlarm (M_ex v)), .int (M_drawn (M_ex v))]), ((q 1), aI K 700 (M_tape (M_tp v))), ((q 2), aI K 20 (M_number (M_cd v))), ((q 3), aZ K 5 (M_isTold (M_rd v))), ((q 4), aI K 80 (M_codeSort (M_cd v))), ((q 5), aI K 80 (M_codeA (M_cd v))), ((q 6), aI K 80 (M_codeB (M_cd v))), ((q 7), aI K 80 (M_codeC (M_cd v))), ((q 8), aI K 80 (M_codeName (M_cd v))), ((q 9), aI K 80 (M_codePlace (M_cd v))), ((q 10), aI K 80 (M_codeTo (M_cd v))), ((q 11), aI K 280 (M_labelName (M_cd v))), ((q 12), aI K 280 (M_labelAt (M_cd v))), ((q 13), aI K 64 (M_data (M_cd v))), ((q 14), aZ K 32 (M_hasData (M_rd v))), ((q 15), aI K 314 (M_s (M_rn v))), ((q 16), aI K 314 (M_aside (M_ex v))), ((q 17), aI K 314 (M_further (M_ex v))), ((q 18), aI K 314 (M_image (M_im v))), ((q 19), aI K 3 (M_sizeNow (M_rn v))), ((q 20), aI K 8 (M_aloneRegister (M_al v))), ((q 21), aI K 4 (M_aloneReal (M_al v))), ((q 22), aI K 32 (M_aloneMemory (M_al v))), ((q 23), aI K 999 (M_aloneOutput (M_al v)))]) ([(0, .ref (q 0))]) ([.int y1]) 20 := by
    intro y1 hf
    rw [eJ2] at hf
    refine r_istore_n (pc := 20) (loc' := [(1, .int y1), (0, .ref (q 0))]) cx dX10_wrongHere_20 rfl (by decide) rfl ?_
    refine r_iconst (pc := 21) cx dX10_wrongHere_21 ic_0 ?_
    refine r_istore_n (pc := 22) (loc' := [(2, .int (0 : Int32)), (1, .int y1), (0, .ref (q 0))]) cx dX10_wrongHere_22 rfl (by decide) rfl ?_
    have hL23 : ∀ (k23_65 : Int32 → Option (Int32)), (∀ (x5 : Int32), k23_65 x5 = some r_ → WW p l e rm_M_wrongHere s m args below meth c D A 3 0 0 (MQ below (QI D K A r_ (cl_M K q v)) args s 0 0 A) ([((q 0), ob 9 [.int (M_thrown v), .ref (q 1), .int (M_taped (M_tp v)), .ref (q 2), .ref (q 3), .ref (q 4), .ref (q 5), .ref (q 6), .ref (q 7), .ref (q 8), .ref (q 9), .ref (q 10), .ref (q 11), .ref (q 12), .ref (q 13), .ref (q 14), .int (M_lines (M_rd v)), .int (M_size (M_rd v)), .int (M_at (M_rd v)), .int (M_place (M_rd v)), .int (M_sort (M_rd v)), .int (M_value (M_rd v)), .int (M_fault (M_rd v)), .int (M_faultPlace (M_rd v)), .int (M_lastFault (M_lf v)), .int (M_lastPlace (M_lf v)), .ref (q 15), .ref (q 16), .ref (q 17), .ref (q 18), .int (M_hasImage (M_im v)), .int (M_spanNow (M_rn v)), .ref (q 19), .int (M_placeThen (M_rn v)), .int (M_alonePlace (M_al v)), .int (M_aloneSteps (M_al v)), .int (M_aloneOut (M_al v)), .ref (q 20), .ref (q 21), .ref (q 22), .ref (q 23), .int (M_shotAlarm (M_ex v)), .int (M_drawn (M_ex v))]), ((q 1), aI K 700 (M_tape (M_tp v))), ((q 2), aI K 20 (M_number (M_cd v))), ((q 3), aZ K 5 (M_isTold (M_rd v))), ((q 4), aI K 80 (M_codeSort (M_cd v))), ((q 5), aI K 80 (M_codeA (M_cd v))), ((q 6), aI K 80 (M_codeB (M_cd v))), ((q 7), aI K 80 (M_codeC (M_cd v))), ((q 8), aI K 80 (M_codeName (M_cd v))), ((q 9), aI K 80 (M_codePlace (M_cd v))), ((q 10), aI K 80 (M_codeTo (M_cd v))), ((q 11), aI K 280 (M_labelName (M_cd v))), ((q 12), aI K 280 (M_labelAt (M_cd v))), ((q 13), aI K 64 (M_data (M_cd v))), ((q 14), aZ K 32 (M_hasData (M_rd v))), ((q 15), aI K 314 (M_s (M_rn v))), ((q 16), aI K 314 (M_aside (M_ex v))), ((q 17), aI K 314 (M_further (M_ex v))), ((q 18), aI K 314 (M_image (M_im v))), ((q 19), aI K 3 (M_sizeNow (M_rn v))), ((q 20), aI K 8 (M_aloneRegister (M_al v))), ((q 21), aI K 4 (M_aloneReal (M_al v))), ((q 22), aI K 32 (M_aloneMemory (M_al v))), ((q 23), aI K 999 (M_aloneOutput (M_al v)))]) ([(0, .ref (q 0)), (1, .int x5)]) ([]) 65) → ∀ (n23 : Nat) (x3 : Int32) (x4 : Int32), f_M_wrongHere_L23 v k23_65 n23 x3 x4 = some r_ → WW p l e rm_M_wrongHere s m args below meth c D A 3 0 0 (MQ below (QI D K A r_ (cl_M K q v)) args s 0 0 A) ([((q 0), ob 9 [.int (M_thrown v), .ref (q 1), .int (M_taped (M_tp v)), .ref (q 2), .ref (q 3), .ref (q 4), .ref (q 5), .ref (q 6), .ref (q 7), .ref (q 8), .ref (q 9), .ref (q 10), .ref (q 11), .ref (q 12), .ref (q 13), .ref (q 14), .int (M_lines (M_rd v)), .int (M_size (M_rd v)), .int (M_at (M_rd v)), .int (M_place (M_rd v)), .int (M_sort (M_rd v)), .int (M_value (M_rd v)), .int (M_fault (M_rd v)), .int (M_faultPlace (M_rd v)), .int (M_lastFault (M_lf v)), .int (M_lastPlace (M_lf v)), .ref (q 15), .ref (q 16), .ref (q 17), .ref (q 18), .int (M_hasImage (M_im v)), .int (M_spanNow (M_rn v)), .ref (q 19), .int (M_placeThen (M_rn v)), .int (M_alonePlace (M_al v)), .int (M_aloneSteps (M_al v)), .int (M_aloneOut (M_al v)), .ref (q 20), .ref (q 21), .ref (q 22), .ref (q 23), .int (M_shotAlarm (M_ex v)), .int (M_drawn (M_ex v))]), ((q 1), aI K 700 (M_tape (M_tp v))), ((q 2), aI K 20 (M_number (M_cd v))), ((q 3), aZ K 5 (M_isTold (M_rd v))), ((q 4), aI K 80 (M_codeSort (M_cd v))), ((q 5), aI K 80 (M_codeA (M_cd v))), ((q 6), aI K 80 (M_codeB (M_cd v))), ((q 7), aI K 80 (M_codeC (M_cd v))), ((q 8), aI K 80 (M_codeName (M_cd v))), ((q 9), aI K 80 (M_codePlace (M_cd v))), ((q 10), aI K 80 (M_codeTo (M_cd v))), ((q 11), aI K 280 (M_labelName (M_cd v))), ((q 12), aI K 280 (M_labelAt (M_cd v))), ((q 13), aI K 64 (M_data (M_cd v))), ((q 14), aZ K 32 (M_hasData (M_rd v))), ((q 15), aI K 314 (M_s (M_rn v))), ((q 16), aI K 314 (M_aside (M_ex v))), ((q 17), aI K 314 (M_further (M_ex v))), ((q 18), aI K 314 (M_image (M_im v))), ((q 19), aI K 3 (M_sizeNow (M_rn v))), ((q 20), aI K 8 (M_aloneRegister (M_al v))), ((q 21), aI K 4 (M_aloneReal (M_al v))), ((q 22), aI K 32 (M_aloneMemory (M_al v))), ((q 23), aI K 999 (M_aloneOutput (M_al v)))]) ([(0, .ref (q 0)), (1, .int x3), (2, .int x4)]) ([]) 23 := by
      intro k23_65 hk23_65 n23
      induction n23 with
      | zero => intro x3 x4 hf; exact (nomatch (show (none : Option (Int32)) = some _ from hf))
      | succ n23 ih23 =>
        intro x3 x4 hf
        rw [f_M_wrongHere_L23] at hf
        refine r_iload_n (pc := 23) cx dX10_wrongHere_23 2 rfl ?_
        refine r_bipush (pc := 24) cx dX10_wrongHere_24 bp_8 ?_
        refine r_icmp_ge (pc := 26) (tgt := 65) cx dX10_wrongHere_26 (by decide) (fun h6 => ?_) (fun h6 => ?_)
        · have hf := ifp h6 hf
          refine r_loc (loc' := [(0, .ref (q 0)), (1, .int x3)]) [0, 1] rfl ?_
          exact hk23_65 _ hf
        · have hf := ifn h6 hf
          refine r_iload_n (pc := 29) cx dX10_wrongHere_29 1 rfl ?_
          refine r_if_eq (pc := 30) (tgt := 57) cx dX10_wrongHere_30 (by decide) (fun h7 => ?_) (fun h7 => ?_)
          · have hf := ifp h7 hf
            refine r_iconst (pc := 57) cx dX10_wrongHere_57 ic_0 ?_
            refine r_istore_n (pc := 58) (loc' := [(1, .int (0 : Int32)), (0, .ref (q 0)), (2, .int x4)]) cx dX10_wrongHere_58 rfl (by decide) rfl ?_
            obtain ⟨x8, ex8, hf⟩ := nm_of hf
            refine r_iinc (pc := 59) (loc' := [(2, .int x8), (1, .int (0 : Int32)), (0, .ref (q 0))]) (v := x8) cx dX10_wrongHere_59 2 rfl ((congrArg (fun z => x4 + z) ic_1).trans ex8.symm) (by decide) rfl ?_
            refine r_goto (pc := 62) (tgt := 23) cx dX10_wrongHere_62 (by decide) ?_
            refine r_loc (loc' := [(0, .ref (q 0)), (1, .int (0 : Int32)), (2, .int x8)]) [2, 1, 0] rfl ?_
            exact ih23 _ _ hf
          · have hf := ifn h7 hf
            refine r_aload_n (pc := 33) cx dX10_wrongHere_33 0 rfl ?_
            refine r_get (pc := 34) cx cf_X10 0 26 rfl (by decide) rfl wd_1342 dX10_wrongHere_34 ?_
            refine r_iconst (pc := 37) cx dX10_wrongHere_37 ic_4 ?_
            refine r_iload_n (pc := 38) cx dX10_wrongHere_38 2 rfl ?_
            refine r_iadd (pc := 39) cx dX10_wrongHere_39 ?_
            obtain ⟨h9, hf⟩ := chk_of hf
            refine r_iald (pc := 40) cx 15 rfl h9 dX10_wrongHere_40 ?_
            refine r_aload_n (pc := 41) cx dX10_wrongHere_41 0 rfl ?_
            refine r_get (pc := 42) cx cf_X10 0 26 rfl (by decide) rfl wd_1342 dX10_wrongHere_42 ?_
            refine r_bipush (pc := 45) cx dX10_wrongHere_45 bp_12 ?_
            refine r_iload_n (pc := 47) cx dX10_wrongHere_47 2 rfl ?_
            refine r_iadd (pc := 48) cx dX10_wrongHere_48 ?_
            obtain ⟨h10, hf⟩ := chk_of hf
            refine r_iald (pc := 49) cx 15 rfl h10 dX10_wrongHere_49 ?_
            refine r_icmp_ne (pc := 50) (tgt := 57) cx dX10_wrongHere_50 (by decide) (fun h11 => ?_) (fun h11 => ?_)
            · have hf := ifn h11 hf
              refine r_iconst (pc := 57) cx dX10_wrongHere_57 ic_0 ?_
              refine r_istore_n (pc := 58) (loc' := [(1, .int (0 : Int32)), (0, .ref (q 0)), (2, .int x4)]) cx dX10_wrongHere_58 rfl (by decide) rfl ?_
              obtain ⟨x12, ex12, hf⟩ := nm_of hf
              refine r_iinc (pc := 59) (loc' := [(2, .int x12), (1, .int (0 : Int32)), (0, .ref (q 0))]) (v := x12) cx dX10_wrongHere_59 2 rfl ((congrArg (fun z => x4 + z) ic_1).trans ex12.symm) (by decide) rfl ?_
              refine r_goto (pc := 62) (tgt := 23) cx dX10_wrongHere_62 (by decide) ?_
              refine r_loc (loc' := [(0, .ref (q 0)), (1, .int (0 : Int32)), (2, .int x12)]) [2, 1, 0] rfl ?_
              exact ih23 _ _ hf
            · have hf := ifp h11 hf
              refine r_iconst (pc := 53) cx dX10_wrongHere_53 ic_1 ?_
              refine r_goto (pc := 54) (tgt := 58) cx dX10_wrongHere_54 (by decide) ?_
              refine r_istore_n (pc := 58) (loc' := [(1, .int (1 : Int32)), (0, .ref (q 0)), (2, .int x4)]) cx dX10_wrongHere_58 rfl (by decide) rfl ?_
              obtain ⟨x13, ex13, hf⟩ := nm_of hf
              refine r_iinc (pc := 59) (loc' := [(2, .int x13), (1, .int (1 : Int32)), (0, .ref (q 0))]) (v := x13) cx dX10_wrongHere_59 2 rfl ((congrArg (fun z => x4 + z) ic_1).trans ex13.symm) (by decide) rfl ?_
              refine r_goto (pc := 62) (tgt := 23) cx dX10_wrongHere_62 (by decide) ?_
              refine r_loc (loc' := [(0, .ref (q 0)), (1, .int (1 : Int32)), (2, .int x13)]) [2, 1, 0] rfl ?_
              exact ih23 _ _ hf
    refine r_loc (loc' := [(0, .ref (q 0)), (1, .int y1), (2, .int (0 : Int32))]) [2, 1, 0] rfl ?_
    refine hL23 _ (fun x5 hf => ?_) _ _ _ hf
    refine r_iconst (pc := 65) cx dX10_wrongHere_65 ic_0 ?_
    refine r_istore_n (pc := 66) (loc' := [(2, .int (0 : Int32)), (0, .ref (q 0)), (1, .int x5)]) cx dX10_wrongHere_66 rfl (by decide) rfl ?_
    have hL67 : ∀ (k67_109 : Int32 → Option (Int32)), (∀ (x16 : Int32), k67_109 x16 = some r_ → WW p l e rm_M_wrongHere s m args below meth c D A 3 0 0 (MQ below (QI D K A r_ (cl_M K q v)) args s 0 0 A) ([((q 0), ob 9 [.int (M_thrown v), .ref (q 1), .int (M_taped (M_tp v)), .ref (q 2), .ref (q 3), .ref (q 4), .ref (q 5), .ref (q 6), .ref (q 7), .ref (q 8), .ref (q 9), .ref (q 10), .ref (q 11), .ref (q 12), .ref (q 13), .ref (q 14), .int (M_lines (M_rd v)), .int (M_size (M_rd v)), .int (M_at (M_rd v)), .int (M_place (M_rd v)), .int (M_sort (M_rd v)), .int (M_value (M_rd v)), .int (M_fault (M_rd v)), .int (M_faultPlace (M_rd v)), .int (M_lastFault (M_lf v)), .int (M_lastPlace (M_lf v)), .ref (q 15), .ref (q 16), .ref (q 17), .ref (q 18), .int (M_hasImage (M_im v)), .int (M_spanNow (M_rn v)), .ref (q 19), .int (M_placeThen (M_rn v)), .int (M_alonePlace (M_al v)), .int (M_aloneSteps (M_al v)), .int (M_aloneOut (M_al v)), .ref (q 20), .ref (q 21), .ref (q 22), .ref (q 23), .int (M_shotAlarm (M_ex v)), .int (M_drawn (M_ex v))]), ((q 1), aI K 700 (M_tape (M_tp v))), ((q 2), aI K 20 (M_number (M_cd v))), ((q 3), aZ K 5 (M_isTold (M_rd v))), ((q 4), aI K 80 (M_codeSort (M_cd v))), ((q 5), aI K 80 (M_codeA (M_cd v))), ((q 6), aI K 80 (M_codeB (M_cd v))), ((q 7), aI K 80 (M_codeC (M_cd v))), ((q 8), aI K 80 (M_codeName (M_cd v))), ((q 9), aI K 80 (M_codePlace (M_cd v))), ((q 10), aI K 80 (M_codeTo (M_cd v))), ((q 11), aI K 280 (M_labelName (M_cd v))), ((q 12), aI K 280 (M_labelAt (M_cd v))), ((q 13), aI K 64 (M_data (M_cd v))), ((q 14), aZ K 32 (M_hasData (M_rd v))), ((q 15), aI K 314 (M_s (M_rn v))), ((q 16), aI K 314 (M_aside (M_ex v))), ((q 17), aI K 314 (M_further (M_ex v))), ((q 18), aI K 314 (M_image (M_im v))), ((q 19), aI K 3 (M_sizeNow (M_rn v))), ((q 20), aI K 8 (M_aloneRegister (M_al v))), ((q 21), aI K 4 (M_aloneReal (M_al v))), ((q 22), aI K 32 (M_aloneMemory (M_al v))), ((q 23), aI K 999 (M_aloneOutput (M_al v)))]) ([(0, .ref (q 0)), (1, .int x16)]) ([]) 109) → ∀ (n67 : Nat) (x14 : Int32) (x15 : Int32), f_M_wrongHere_L67 v k67_109 n67 x14 x15 = some r_ → WW p l e rm_M_wrongHere s m args below meth c D A 3 0 0 (MQ below (QI D K A r_ (cl_M K q v)) args s 0 0 A) ([((q 0), ob 9 [.int (M_thrown v), .ref (q 1), .int (M_taped (M_tp v)), .ref (q 2), .ref (q 3), .ref (q 4), .ref (q 5), .ref (q 6), .ref (q 7), .ref (q 8), .ref (q 9), .ref (q 10), .ref (q 11), .ref (q 12), .ref (q 13), .ref (q 14), .int (M_lines (M_rd v)), .int (M_size (M_rd v)), .int (M_at (M_rd v)), .int (M_place (M_rd v)), .int (M_sort (M_rd v)), .int (M_value (M_rd v)), .int (M_fault (M_rd v)), .int (M_faultPlace (M_rd v)), .int (M_lastFault (M_lf v)), .int (M_lastPlace (M_lf v)), .ref (q 15), .ref (q 16), .ref (q 17), .ref (q 18), .int (M_hasImage (M_im v)), .int (M_spanNow (M_rn v)), .ref (q 19), .int (M_placeThen (M_rn v)), .int (M_alonePlace (M_al v)), .int (M_aloneSteps (M_al v)), .int (M_aloneOut (M_al v)), .ref (q 20), .ref (q 21), .ref (q 22), .ref (q 23), .int (M_shotAlarm (M_ex v)), .int (M_drawn (M_ex v))]), ((q 1), aI K 700 (M_tape (M_tp v))), ((q 2), aI K 20 (M_number (M_cd v))), ((q 3), aZ K 5 (M_isTold (M_rd v))), ((q 4), aI K 80 (M_codeSort (M_cd v))), ((q 5), aI K 80 (M_codeA (M_cd v))), ((q 6), aI K 80 (M_codeB (M_cd v))), ((q 7), aI K 80 (M_codeC (M_cd v))), ((q 8), aI K 80 (M_codeName (M_cd v))), ((q 9), aI K 80 (M_codePlace (M_cd v))), ((q 10), aI K 80 (M_codeTo (M_cd v))), ((q 11), aI K 280 (M_labelName (M_cd v))), ((q 12), aI K 280 (M_labelAt (M_cd v))), ((q 13), aI K 64 (M_data (M_cd v))), ((q 14), aZ K 32 (M_hasData (M_rd v))), ((q 15), aI K 314 (M_s (M_rn v))), ((q 16), aI K 314 (M_aside (M_ex v))), ((q 17), aI K 314 (M_further (M_ex v))), ((q 18), aI K 314 (M_image (M_im v))), ((q 19), aI K 3 (M_sizeNow (M_rn v))), ((q 20), aI K 8 (M_aloneRegister (M_al v))), ((q 21), aI K 4 (M_aloneReal (M_al v))), ((q 22), aI K 32 (M_aloneMemory (M_al v))), ((q 23), aI K 999 (M_aloneOutput (M_al v)))]) ([(0, .ref (q 0)), (1, .int x14), (2, .int x15)]) ([]) 67 := by
      intro k67_109 hk67_109 n67
      induction n67 with
      | zero => intro x14 x15 hf; exact (nomatch (show (none : Option (Int32)) = some _ from hf))
      | succ n67 ih67 =>
        intro x14 x15 hf
        rw [f_M_wrongHere_L67] at hf
        refine r_iload_n (pc := 67) cx dX10_wrongHere_67 2 rfl ?_
        refine r_iconst (pc := 68) cx dX10_wrongHere_68 ic_4 ?_
        refine r_icmp_ge (pc := 69) (tgt := 109) cx dX10_wrongHere_69 (by decide) (fun h17 => ?_) (fun h17 => ?_)
        · have hf := ifp h17 hf
          refine r_loc (loc' := [(0, .ref (q 0)), (1, .int x14)]) [0, 1] rfl ?_
          exact hk67_109 _ hf
        · have hf := ifn h17 hf
          refine r_iload_n (pc := 72) cx dX10_wrongHere_72 1 rfl ?_
          refine r_if_eq (pc := 73) (tgt := 101) cx dX10_wrongHere_73 (by decide) (fun h18 => ?_) (fun h18 => ?_)
          · have hf := ifp h18 hf
            refine r_iconst (pc := 101) cx dX10_wrongHere_101 ic_0 ?_
            refine r_istore_n (pc := 102) (loc' := [(1, .int (0 : Int32)), (0, .ref (q 0)), (2, .int x15)]) cx dX10_wrongHere_102 rfl (by decide) rfl ?_
            obtain ⟨x19, ex19, hf⟩ := nm_of hf
            refine r_iinc (pc := 103) (loc' := [(2, .int x19), (1, .int (0 : Int32)), (0, .ref (q 0))]) (v := x19) cx dX10_wrongHere_103 2 rfl ((congrArg (fun z => x15 + z) ic_1).trans ex19.symm) (by decide) rfl ?_
            refine r_goto (pc := 106) (tgt := 67) cx dX10_wrongHere_106 (by decide) ?_
            refine r_loc (loc' := [(0, .ref (q 0)), (1, .int (0 : Int32)), (2, .int x19)]) [2, 1, 0] rfl ?_
            exact ih67 _ _ hf
          · have hf := ifn h18 hf
            refine r_aload_n (pc := 76) cx dX10_wrongHere_76 0 rfl ?_
            refine r_get (pc := 77) cx cf_X10 0 26 rfl (by decide) rfl wd_1342 dX10_wrongHere_77 ?_
            refine r_bipush (pc := 80) cx dX10_wrongHere_80 bp_20 ?_
            refine r_iload_n (pc := 82) cx dX10_wrongHere_82 2 rfl ?_
            refine r_iadd (pc := 83) cx dX10_wrongHere_83 ?_
            obtain ⟨h20, hf⟩ := chk_of hf
            refine r_iald (pc := 84) cx 15 rfl h20 dX10_wrongHere_84 ?_
            refine r_aload_n (pc := 85) cx dX10_wrongHere_85 0 rfl ?_
            refine r_get (pc := 86) cx cf_X10 0 26 rfl (by decide) rfl wd_1342 dX10_wrongHere_86 ?_
            refine r_bipush (pc := 89) cx dX10_wrongHere_89 bp_24 ?_
            refine r_iload_n (pc := 91) cx dX10_wrongHere_91 2 rfl ?_
            refine r_iadd (pc := 92) cx dX10_wrongHere_92 ?_
            obtain ⟨h21, hf⟩ := chk_of hf
            refine r_iald (pc := 93) cx 15 rfl h21 dX10_wrongHere_93 ?_
            refine r_icmp_ne (pc := 94) (tgt := 101) cx dX10_wrongHere_94 (by decide) (fun h22 => ?_) (fun h22 => ?_)
            · have hf := ifn h22 hf
              refine r_iconst (pc := 101) cx dX10_wrongHere_101 ic_0 ?_
              refine r_istore_n (pc := 102) (loc' := [(1, .int (0 : Int32)), (0, .ref (q 0)), (2, .int x15)]) cx dX10_wrongHere_102 rfl (by decide) rfl ?_
              obtain ⟨x23, ex23, hf⟩ := nm_of hf
              refine r_iinc (pc := 103) (loc' := [(2, .int x23), (1, .int (0 : Int32)), (0, .ref (q 0))]) (v := x23) cx dX10_wrongHere_103 2 rfl ((congrArg (fun z => x15 + z) ic_1).trans ex23.symm) (by decide) rfl ?_
              refine r_goto (pc := 106) (tgt := 67) cx dX10_wrongHere_106 (by decide) ?_
              refine r_loc (loc' := [(0, .ref (q 0)), (1, .int (0 : Int32)), (2, .int x23)]) [2, 1, 0] rfl ?_
              exact ih67 _ _ hf
            · have hf := ifp h22 hf
              refine r_iconst (pc := 97) cx dX10_wrongHere_97 ic_1 ?_
              refine r_goto (pc := 98) (tgt := 102) cx dX10_wrongHere_98 (by decide) ?_
              refine r_istore_n (pc := 102) (loc' := [(1, .int (1 : Int32)), (0, .ref (q 0)), (2, .int x15)]) cx dX10_wrongHere_102 rfl (by decide) rfl ?_
              obtain ⟨x24, ex24, hf⟩ := nm_of hf
              refine r_iinc (pc := 103) (loc' := [(2, .int x24), (1, .int (1 : Int32)), (0, .ref (q 0))]) (v := x24) cx dX10_wrongHere_103 2 rfl ((congrArg (fun z => x15 + z) ic_1).trans ex24.symm) (by decide) rfl ?_
              refine r_goto (pc := 106) (tgt := 67) cx dX10_wrongHere_106 (by decide) ?_
              refine r_loc (loc' := [(0, .ref (q 0)), (1, .int (1 : Int32)), (2, .int x24)]) [2, 1, 0] rfl ?_
              exact ih67 _ _ hf
    refine r_loc (loc' := [(0, .ref (q 0)), (1, .int x5), (2, .int (0 : Int32))]) [1, 2, 0] rfl ?_
    refine hL67 _ (fun x16 hf => ?_) _ _ _ hf
    refine r_iload_n (pc := 109) cx dX10_wrongHere_109 1 rfl ?_
    refine r_if_ne (pc := 110) (tgt := 115) cx dX10_wrongHere_110 (by decide) (fun h25 => ?_) (fun h25 => ?_)
    · have hf := ifn h25 hf
      refine r_aload_n (pc := 115) cx dX10_wrongHere_115 0 rfl ?_
      refine r_get (pc := 116) cx cf_X10 0 26 rfl (by decide) rfl wd_1342 dX10_wrongHere_116 ?_
      refine r_iconst (pc := 119) cx dX10_wrongHere_119 ic_2 ?_
      refine r_iald (pc := 120) cx 15 rfl (by decide) dX10_wrongHere_120 ?_
      refine r_aload_n (pc := 121) cx dX10_wrongHere_121 0 rfl ?_
      refine r_get (pc := 122) cx cf_X10 0 26 rfl (by decide) rfl wd_1342 dX10_wrongHere_122 ?_
      refine r_iconst (pc := 125) cx dX10_wrongHere_125 ic_3 ?_
      refine r_iald (pc := 126) cx 15 rfl (by decide) dX10_wrongHere_126 ?_
      refine r_icmp_ne (pc := 127) (tgt := 167) cx dX10_wrongHere_127 (by decide) (fun h26 => ?_) (fun h26 => ?_)
      · have hf := ifn h26 hf
        refine r_iconst (pc := 167) cx dX10_wrongHere_167 ic_5 ?_
        cases hf
        exact r_iret (pc := 168) cx rfl rfl dX10_wrongHere_168
      · have hf := ifp h26 hf
        refine r_aload_n (pc := 130) cx dX10_wrongHere_130 0 rfl ?_
        refine r_get (pc := 131) cx cf_X10 0 26 rfl (by decide) rfl wd_1342 dX10_wrongHere_131 ?_
        refine r_bipush (pc := 134) cx dX10_wrongHere_134 bp_86 ?_
        refine r_iald (pc := 136) cx 15 rfl (by decide) dX10_wrongHere_136 ?_
        refine r_if_gt (pc := 137) (tgt := 167) cx dX10_wrongHere_137 (by decide) (fun h27 => ?_) (fun h27 => ?_)
        · have hf := ifp h27 hf
          refine r_iconst (pc := 167) cx dX10_wrongHere_167 ic_5 ?_
          cases hf
          exact r_iret (pc := 168) cx rfl rfl dX10_wrongHere_168
        · have hf := ifn h27 hf
          refine r_aload_n (pc := 140) cx dX10_wrongHere_140 0 rfl ?_
          refine r_get (pc := 141) cx cf_X10 0 26 rfl (by decide) rfl wd_1342 dX10_wrongHere_141 ?_
          refine r_bipush (pc := 144) cx dX10_wrongHere_144 bp_103 ?_
          refine r_iald (pc := 146) cx 15 rfl (by decide) dX10_wrongHere_146 ?_
          refine r_if_gt (pc := 147) (tgt := 167) cx dX10_wrongHere_147 (by decide) (fun h28 => ?_) (fun h28 => ?_)
          · have hf := ifp h28 hf
            refine r_iconst (pc := 167) cx dX10_wrongHere_167 ic_5 ?_
            cases hf
            exact r_iret (pc := 168) cx rfl rfl dX10_wrongHere_168
          · have hf := ifn h28 hf
            refine r_aload_n (pc := 150) cx dX10_wrongHere_150 0 rfl ?_
            refine r_get (pc := 151) cx cf_X10 0 26 rfl (by decide) rfl wd_1342 dX10_wrongHere_151 ?_
            refine r_bipush (pc := 154) cx dX10_wrongHere_154 bp_112 ?_
            refine r_iald (pc := 156) cx 15 rfl (by decide) dX10_wrongHere_156 ?_
            refine r_aload_n (pc := 157) cx dX10_wrongHere_157 0 rfl ?_
            refine r_get (pc := 158) cx cf_X10 0 26 rfl (by decide) rfl wd_1342 dX10_wrongHere_158 ?_
            refine r_bipush (pc := 161) cx dX10_wrongHere_161 bp_113 ?_
            refine r_iald (pc := 163) cx 15 rfl (by decide) dX10_wrongHere_163 ?_
            refine r_icmp_eq (pc := 164) (tgt := 169) cx dX10_wrongHere_164 (by decide) (fun h29 => ?_) (fun h29 => ?_)
            · have hf := ifp h29 hf
              refine r_iconst (pc := 169) cx dX10_wrongHere_169 ic_0 ?_
              refine r_istore_n (pc := 170) (loc' := [(2, .int (0 : Int32)), (0, .ref (q 0)), (1, .int x16)]) cx dX10_wrongHere_170 rfl (by decide) rfl ?_
              have hL171 : ∀ (k171_226 : Option (Int32)) (k171_235 : Option (Int32)), (k171_226 = some r_ → WW p l e rm_M_wrongHere s m args below meth c D A 3 0 0 (MQ below (QI D K A r_ (cl_M K q v)) args s 0 0 A) ([((q 0), ob 9 [.int (M_thrown v), .ref (q 1), .int (M_taped (M_tp v)), .ref (q 2), .ref (q 3), .ref (q 4), .ref (q 5), .ref (q 6), .ref (q 7), .ref (q 8), .ref (q 9), .ref (q 10), .ref (q 11), .ref (q 12), .ref (q 13), .ref (q 14), .int (M_lines (M_rd v)), .int (M_size (M_rd v)), .int (M_at (M_rd v)), .int (M_place (M_rd v)), .int (M_sort (M_rd v)), .int (M_value (M_rd v)), .int (M_fault (M_rd v)), .int (M_faultPlace (M_rd v)), .int (M_lastFault (M_lf v)), .int (M_lastPlace (M_lf v)), .ref (q 15), .ref (q 16), .ref (q 17), .ref (q 18), .int (M_hasImage (M_im v)), .int (M_spanNow (M_rn v)), .ref (q 19), .int (M_placeThen (M_rn v)), .int (M_alonePlace (M_al v)), .int (M_aloneSteps (M_al v)), .int (M_aloneOut (M_al v)), .ref (q 20), .ref (q 21), .ref (q 22), .ref (q 23), .int (M_shotAlarm (M_ex v)), .int (M_drawn (M_ex v))]), ((q 1), aI K 700 (M_tape (M_tp v))), ((q 2), aI K 20 (M_number (M_cd v))), ((q 3), aZ K 5 (M_isTold (M_rd v))), ((q 4), aI K 80 (M_codeSort (M_cd v))), ((q 5), aI K 80 (M_codeA (M_cd v))), ((q 6), aI K 80 (M_codeB (M_cd v))), ((q 7), aI K 80 (M_codeC (M_cd v))), ((q 8), aI K 80 (M_codeName (M_cd v))), ((q 9), aI K 80 (M_codePlace (M_cd v))), ((q 10), aI K 80 (M_codeTo (M_cd v))), ((q 11), aI K 280 (M_labelName (M_cd v))), ((q 12), aI K 280 (M_labelAt (M_cd v))), ((q 13), aI K 64 (M_data (M_cd v))), ((q 14), aZ K 32 (M_hasData (M_rd v))), ((q 15), aI K 314 (M_s (M_rn v))), ((q 16), aI K 314 (M_aside (M_ex v))), ((q 17), aI K 314 (M_further (M_ex v))), ((q 18), aI K 314 (M_image (M_im v))), ((q 19), aI K 3 (M_sizeNow (M_rn v))), ((q 20), aI K 8 (M_aloneRegister (M_al v))), ((q 21), aI K 4 (M_aloneReal (M_al v))), ((q 22), aI K 32 (M_aloneMemory (M_al v))), ((q 23), aI K 999 (M_aloneOutput (M_al v)))]) ([]) ([]) 226) → (k171_235 = some r_ → WW p l e rm_M_wrongHere s m args below meth c D A 3 0 0 (MQ below (QI D K A r_ (cl_M K q v)) args s 0 0 A) ([((q 0), ob 9 [.int (M_thrown v), .ref (q 1), .int (M_taped (M_tp v)), .ref (q 2), .ref (q 3), .ref (q 4), .ref (q 5), .ref (q 6), .ref (q 7), .ref (q 8), .ref (q 9), .ref (q 10), .ref (q 11), .ref (q 12), .ref (q 13), .ref (q 14), .int (M_lines (M_rd v)), .int (M_size (M_rd v)), .int (M_at (M_rd v)), .int (M_place (M_rd v)), .int (M_sort (M_rd v)), .int (M_value (M_rd v)), .int (M_fault (M_rd v)), .int (M_faultPlace (M_rd v)), .int (M_lastFault (M_lf v)), .int (M_lastPlace (M_lf v)), .ref (q 15), .ref (q 16), .ref (q 17), .ref (q 18), .int (M_hasImage (M_im v)), .int (M_spanNow (M_rn v)), .ref (q 19), .int (M_placeThen (M_rn v)), .int (M_alonePlace (M_al v)), .int (M_aloneSteps (M_al v)), .int (M_aloneOut (M_al v)), .ref (q 20), .ref (q 21), .ref (q 22), .ref (q 23), .int (M_shotAlarm (M_ex v)), .int (M_drawn (M_ex v))]), ((q 1), aI K 700 (M_tape (M_tp v))), ((q 2), aI K 20 (M_number (M_cd v))), ((q 3), aZ K 5 (M_isTold (M_rd v))), ((q 4), aI K 80 (M_codeSort (M_cd v))), ((q 5), aI K 80 (M_codeA (M_cd v))), ((q 6), aI K 80 (M_codeB (M_cd v))), ((q 7), aI K 80 (M_codeC (M_cd v))), ((q 8), aI K 80 (M_codeName (M_cd v))), ((q 9), aI K 80 (M_codePlace (M_cd v))), ((q 10), aI K 80 (M_codeTo (M_cd v))), ((q 11), aI K 280 (M_labelName (M_cd v))), ((q 12), aI K 280 (M_labelAt (M_cd v))), ((q 13), aI K 64 (M_data (M_cd v))), ((q 14), aZ K 32 (M_hasData (M_rd v))), ((q 15), aI K 314 (M_s (M_rn v))), ((q 16), aI K 314 (M_aside (M_ex v))), ((q 17), aI K 314 (M_further (M_ex v))), ((q 18), aI K 314 (M_image (M_im v))), ((q 19), aI K 3 (M_sizeNow (M_rn v))), ((q 20), aI K 8 (M_aloneRegister (M_al v))), ((q 21), aI K 4 (M_aloneReal (M_al v))), ((q 22), aI K 32 (M_aloneMemory (M_al v))), ((q 23), aI K 999 (M_aloneOutput (M_al v)))]) ([]) ([]) 235) → ∀ (n171 : Nat) (x30 : Int32), f_M_wrongHere_L171 v k171_226 k171_235 n171 x30 = some r_ → WW p l e rm_M_wrongHere s m args below meth c D A 3 0 0 (MQ below (QI D K A r_ (cl_M K q v)) args s 0 0 A) ([((q 0), ob 9 [.int (M_thrown v), .ref (q 1), .int (M_taped (M_tp v)), .ref (q 2), .ref (q 3), .ref (q 4), .ref (q 5), .ref (q 6), .ref (q 7), .ref (q 8), .ref (q 9), .ref (q 10), .ref (q 11), .ref (q 12), .ref (q 13), .ref (q 14), .int (M_lines (M_rd v)), .int (M_size (M_rd v)), .int (M_at (M_rd v)), .int (M_place (M_rd v)), .int (M_sort (M_rd v)), .int (M_value (M_rd v)), .int (M_fault (M_rd v)), .int (M_faultPlace (M_rd v)), .int (M_lastFault (M_lf v)), .int (M_lastPlace (M_lf v)), .ref (q 15), .ref (q 16), .ref (q 17), .ref (q 18), .int (M_hasImage (M_im v)), .int (M_spanNow (M_rn v)), .ref (q 19), .int (M_placeThen (M_rn v)), .int (M_alonePlace (M_al v)), .int (M_aloneSteps (M_al v)), .int (M_aloneOut (M_al v)), .ref (q 20), .ref (q 21), .ref (q 22), .ref (q 23), .int (M_shotAlarm (M_ex v)), .int (M_drawn (M_ex v))]), ((q 1), aI K 700 (M_tape (M_tp v))), ((q 2), aI K 20 (M_number (M_cd v))), ((q 3), aZ K 5 (M_isTold (M_rd v))), ((q 4), aI K 80 (M_codeSort (M_cd v))), ((q 5), aI K 80 (M_codeA (M_cd v))), ((q 6), aI K 80 (M_codeB (M_cd v))), ((q 7), aI K 80 (M_codeC (M_cd v))), ((q 8), aI K 80 (M_codeName (M_cd v))), ((q 9), aI K 80 (M_codePlace (M_cd v))), ((q 10), aI K 80 (M_codeTo (M_cd v))), ((q 11), aI K 280 (M_labelName (M_cd v))), ((q 12), aI K 280 (M_labelAt (M_cd v))), ((q 13), aI K 64 (M_data (M_cd v))), ((q 14), aZ K 32 (M_hasData (M_rd v))), ((q 15), aI K 314 (M_s (M_rn v))), ((q 16), aI K 314 (M_aside (M_ex v))), ((q 17), aI K 314 (M_further (M_ex v))), ((q 18), aI K 314 (M_image (M_im v))), ((q 19), aI K 3 (M_sizeNow (M_rn v))), ((q 20), aI K 8 (M_aloneRegister (M_al v))), ((q 21), aI K 4 (M_aloneReal (M_al v))), ((q 22), aI K 32 (M_aloneMemory (M_al v))), ((q 23), aI K 999 (M_aloneOutput (M_al v)))]) ([(0, .ref (q 0)), (2, .int x30)]) ([]) 171 := by
                intro k171_226 k171_235 hk171_226 hk171_235 n171
                induction n171 with
                | zero => intro x30 hf; exact (nomatch (show (none : Option (Int32)) = some _ from hf))
                | succ n171 ih171 =>
                  intro x30 hf
                  rw [f_M_wrongHere_L171] at hf
                  refine r_iload_n (pc := 171) cx dX10_wrongHere_171 1 rfl ?_
                  refine r_aload_n (pc := 172) cx dX10_wrongHere_172 0 rfl ?_
                  refine r_get (pc := 173) cx cf_X10 0 26 rfl (by decide) rfl wd_1342 dX10_wrongHere_173 ?_
                  refine r_bipush (pc := 176) cx dX10_wrongHere_176 bp_112 ?_
                  refine r_iald (pc := 178) cx 15 rfl (by decide) dX10_wrongHere_178 ?_
                  refine r_icmp_ge (pc := 179) (tgt := 235) cx dX10_wrongHere_179 (by decide) (fun h31 => ?_) (fun h31 => ?_)
                  · have hf := ifp h31 hf
                    refine r_loc (loc' := []) [] rfl ?_
                    exact hk171_235 hf
                  · have hf := ifn h31 hf
                    refine r_aload_n (pc := 182) cx dX10_wrongHere_182 0 rfl ?_
                    refine r_get (pc := 183) cx cf_X10 0 26 rfl (by decide) rfl wd_1342 dX10_wrongHere_183 ?_
                    refine r_bipush (pc := 186) cx dX10_wrongHere_186 bp_114 ?_
                    refine r_iload_n (pc := 188) cx dX10_wrongHere_188 1 rfl ?_
                    refine r_iadd (pc := 189) cx dX10_wrongHere_189 ?_
                    obtain ⟨h32, hf⟩ := chk_of hf
                    refine r_iald (pc := 190) cx 15 rfl h32 dX10_wrongHere_190 ?_
                    refine r_aload_n (pc := 191) cx dX10_wrongHere_191 0 rfl ?_
                    refine r_get (pc := 192) cx cf_X10 0 26 rfl (by decide) rfl wd_1342 dX10_wrongHere_192 ?_
                    refine r_sipush (pc := 195) cx dX10_wrongHere_195 sp_130 ?_
                    refine r_iload_n (pc := 198) cx dX10_wrongHere_198 1 rfl ?_
                    refine r_iadd (pc := 199) cx dX10_wrongHere_199 ?_
                    obtain ⟨h33, hf⟩ := chk_of hf
                    refine r_iald (pc := 200) cx 15 rfl h33 dX10_wrongHere_200 ?_
                    refine r_icmp_ne (pc := 201) (tgt := 226) cx dX10_wrongHere_201 (by decide) (fun h34 => ?_) (fun h34 => ?_)
                    · have hf := ifn h34 hf
                      refine r_loc (loc' := []) [] rfl ?_
                      exact hk171_226 hf
                    · have hf := ifp h34 hf
                      refine r_aload_n (pc := 204) cx dX10_wrongHere_204 0 rfl ?_
                      refine r_get (pc := 205) cx cf_X10 0 26 rfl (by decide) rfl wd_1342 dX10_wrongHere_205 ?_
                      refine r_bipush (pc := 208) cx dX10_wrongHere_208 bp_122 ?_
                      refine r_iload_n (pc := 210) cx dX10_wrongHere_210 1 rfl ?_
                      refine r_iadd (pc := 211) cx dX10_wrongHere_211 ?_
                      obtain ⟨h35, hf⟩ := chk_of hf
                      refine r_iald (pc := 212) cx 15 rfl h35 dX10_wrongHere_212 ?_
                      refine r_aload_n (pc := 213) cx dX10_wrongHere_213 0 rfl ?_
                      refine r_get (pc := 214) cx cf_X10 0 26 rfl (by decide) rfl wd_1342 dX10_wrongHere_214 ?_
                      refine r_sipush (pc := 217) cx dX10_wrongHere_217 sp_138 ?_
                      refine r_iload_n (pc := 220) cx dX10_wrongHere_220 1 rfl ?_
                      refine r_iadd (pc := 221) cx dX10_wrongHere_221 ?_
                      obtain ⟨h36, hf⟩ := chk_of hf
                      refine r_iald (pc := 222) cx 15 rfl h36 dX10_wrongHere_222 ?_
                      refine r_icmp_eq (pc := 223) (tgt := 229) cx dX10_wrongHere_223 (by decide) (fun h37 => ?_) (fun h37 => ?_)
                      · have hf := ifp h37 hf
                        obtain ⟨x38, ex38, hf⟩ := nm_of hf
                        refine r_iinc (pc := 229) (loc' := [(2, .int x38), (0, .ref (q 0))]) (v := x38) cx dX10_wrongHere_229 1 rfl ((congrArg (fun z => x30 + z) ic_1).trans ex38.symm) (by decide) rfl ?_
                        refine r_goto (pc := 232) (tgt := 171) cx dX10_wrongHere_232 (by decide) ?_
                        refine r_loc (loc' := [(0, .ref (q 0)), (2, .int x38)]) [1, 0] rfl ?_
                        exact ih171 _ hf
                      · have hf := ifn h37 hf
                        refine r_loc (loc' := []) [] rfl ?_
                        exact hk171_226 hf
              refine r_loc (loc' := [(0, .ref (q 0)), (2, .int (0 : Int32))]) [1, 0] rfl ?_
              refine hL171 _ _ (fun hf => ?_) (fun hf => ?_) _ _ hf
              · refine r_bipush (pc := 226) cx dX10_wrongHere_226 bp_6 ?_
                cases hf
                exact r_iret (pc := 228) cx rfl rfl dX10_wrongHere_228
              · refine r_iconst (pc := 235) cx dX10_wrongHere_235 ic_0 ?_
                cases hf
                exact r_iret (pc := 236) cx rfl rfl dX10_wrongHere_236
            · have hf := ifn h29 hf
              refine r_iconst (pc := 167) cx dX10_wrongHere_167 ic_5 ?_
              cases hf
              exact r_iret (pc := 168) cx rfl rfl dX10_wrongHere_168
    · have hf := ifp h25 hf
      refine r_iconst (pc := 113) cx dX10_wrongHere_113 ic_4 ?_
      cases hf
      exact r_iret (pc := 114) cx rfl rfl dX10_wrongHere_114
  refine r_icmp_ne (pc := 12) (tgt := 19) cx dX10_wrongHere_12 (by decide) (fun h39 => ?_) (fun h39 => ?_)
  · have hf := ifn h39 hf
    refine r_iconst (pc := 19) cx dX10_wrongHere_19 ic_0 ?_
    exact hJ2 _ hf
  · have hf := ifp h39 hf
    refine r_iconst (pc := 15) cx dX10_wrongHere_15 ic_1 ?_
    refine r_goto (pc := 16) (tgt := 20) cx dX10_wrongHere_16 (by decide) ?_
    exact hJ2 _ hf
theorem yv_X10_wrongHere : YV yX10_wrongHere cX10_wrongHere 3 (some .int) 0 := ⟨⟨by decide +kernel, by decide +kernel, by decide +kernel⟩, wd_1674, wd_102, wd_1673, wd_68⟩
def f_M_journal_L15  (k15_49 : (Nat → Int32) → Option (T_M)) : Nat → Int32 → (Nat → Int32) → Option (T_M)
  | 0, _, _ => none
  | n15 + 1, x19, f20 =>
    (if (45 : Int32) ≤ x19 then (k15_49 f20) else (if ix (((266 : Int32) + x19) + (3 : Int32)) 314 then (nm (f20 ((((266 : Int32) + x19) + (3 : Int32))).toNatClampNeg) fun (x24 : Int32) => (if ix ((266 : Int32) + x19) 314 then (nm (upd f20 (((266 : Int32) + x19)).toNatClampNeg x24) fun (f26 : Nat → Int32) => (nm (x19 + (1 : Int32)) fun (x27 : Int32) => (f_M_journal_L15 k15_49 n15 x27 f26))) else none)) else none))
def f_M_journal (v : T_M) (a1 : Int32) (a2 : Int32) : Option (T_M) :=
  (nm (fun (f1 : (Nat → Int32)) => ((nm ((266 : Int32) + ((3 : Int32) * (f1 (265 : Int32).toNatClampNeg))) fun (x3 : Int32) => (nm (fun (y4 : Int32) => ((if ix x3 314 then (nm (upd f1 x3.toNatClampNeg y4) fun (f7 : Nat → Int32) => (if ix (x3 + (1 : Int32)) 314 then (nm (upd f7 ((x3 + (1 : Int32))).toNatClampNeg a2) fun (f9 : Nat → Int32) => (nm (f9 (220 : Int32).toNatClampNeg) fun (x10 : Int32) => (if ix (x3 + (2 : Int32)) 314 then (nm (upd f9 ((x3 + (2 : Int32))).toNatClampNeg x10) fun (f12 : Nat → Int32) => (nm ((f12 (265 : Int32).toNatClampNeg) + (1 : Int32)) fun (x13 : Int32) => (nm (upd f12 (265 : Int32).toNatClampNeg x13) fun (f14 : Nat → Int32) => (if a1 < (32 : Int32) then (some ((M_tp v), (M_rd v), (M_lf v), (M_cd v), (f14, (M_spanNow (M_rn v)), (M_sizeNow (M_rn v)), (M_placeThen (M_rn v))), (M_ex v), (M_im v), (M_al v), (M_thrown v))) else (nm (upd f14 (232 : Int32).toNatClampNeg (1 : Int32)) fun (f16 : Nat → Int32) => (some ((M_tp v), (M_rd v), (M_lf v), (M_cd v), (f16, (M_spanNow (M_rn v)), (M_sizeNow (M_rn v)), (M_placeThen (M_rn v))), (M_ex v), (M_im v), (M_al v), (M_thrown v)))))))) else none))) else none)) else none) : Option (T_M))) fun J5 => (if (32 : Int32) ≤ a1 then (J5 (32 : Int32)) else (J5 a1)))) : Option (T_M))) fun J2 => (if ((M_s (M_rn v)) (265 : Int32).toNatClampNeg) = (16 : Int32) then (f_M_journal_L15 (fun (f21 : (Nat → Int32)) => (nm ((f21 (265 : Int32).toNatClampNeg) - (1 : Int32)) fun (x28 : Int32) => (nm (upd f21 (265 : Int32).toNatClampNeg x28) fun (f29 : Nat → Int32) => (J2 f29)))) LF (0 : Int32) (M_s (M_rn v))) else (J2 (M_s (M_rn v)))))
abbrev rm_M_journal : Room := { frames := 0, cells := 0, slots := 0, locals := 0 }
set_option maxRecDepth 100000 in
set_option maxHeartbeats 4000000 in
theorem m_M_journal (l : Launch) (D : va_G) (K : Nat → ClassId) (q : Nat → Nat) (v : T_M) (a1 : Int32) (a2 : Int32) {o_v : T_M} (hf : f_M_journal v a1 a2 = some o_v) : MV l yX10_journal cX10_journal 4 (none) rm_M_journal D K [.ref (q 0), .int a1, .int a2] (cl_M K q v) (cl_M K q o_v) := by
  refine MV_of (loc0 := [(0, .ref (q 0)), (1, .int a1), (2, .int a2)]) (by decide +kernel) rfl (Nat.le_of_ble_eq_true rfl) ?_
  intro p e s m args below meth c A cx
  unfold f_M_journal at hf
  refine r_ws (ws' := [((q 0), ob 9 [.int (M_thrown v), .ref (q 1), .int (M_taped (M_tp v)), .ref (q 2), .ref (q 3), .ref (q 4), .ref (q 5), .ref (q 6), .ref (q 7), .ref (q 8), .ref (q 9), .ref (q 10), .ref (q 11), .ref (q 12), .ref (q 13), .ref (q 14), .int (M_lines (M_rd v)), .int (M_size (M_rd v)), .int (M_at (M_rd v)), .int (M_place (M_rd v)), .int (M_sort (M_rd v)), .int (M_value (M_rd v)), .int (M_fault (M_rd v)), .int (M_faultPlace (M_rd v)), .int (M_lastFault (M_lf v)), .int (M_lastPlace (M_lf v)), .ref (q 15), .ref (q 16), .ref (q 17), .ref (q 18), .int (M_hasImage (M_im v)), .int (M_spanNow (M_rn v)), .ref (q 19), .int (M_placeThen (M_rn v)), .int (M_alonePlace (M_al v)), .int (M_aloneSteps (M_al v)), .int (M_aloneOut (M_al v)), .ref (q 20), .ref (q 21), .ref (q 22), .ref (q 23), .int (M_shotAlarm (M_ex v)), .int (M_drawn (M_ex v))]), ((q 1), aI K 700 (M_tape (M_tp v))), ((q 2), aI K 20 (M_number (M_cd v))), ((q 3), aZ K 5 (M_isTold (M_rd v))), ((q 4), aI K 80 (M_codeSort (M_cd v))), ((q 5), aI K 80 (M_codeA (M_cd v))), ((q 6), aI K 80 (M_codeB (M_cd v))), ((q 7), aI K 80 (M_codeC (M_cd v))), ((q 8), aI K 80 (M_codeName (M_cd v))), ((q 9), aI K 80 (M_codePlace (M_cd v))), ((q 10), aI K 80 (M_codeTo (M_cd v))), ((q 11), aI K 280 (M_labelName (M_cd v))), ((q 12), aI K 280 (M_labelAt (M_cd v))), ((q 13), aI K 64 (M_data (M_cd v))), ((q 14), aZ K 32 (M_hasData (M_rd v))), ((q 15), aI K 314 (M_s (M_rn v))), ((q 16), aI K 314 (M_aside (M_ex v))), ((q 17), aI K 314 (M_further (M_ex v))), ((q 18), aI K 314 (M_image (M_im v))), ((q 19), aI K 3 (M_sizeNow (M_rn v))), ((q 20), aI K 8 (M_aloneRegister (M_al v))), ((q 21), aI K 4 (M_aloneReal (M_al v))), ((q 22), aI K 32 (M_aloneMemory (M_al v))), ((q 23), aI K 999 (M_aloneOutput (M_al v)))]) rfl ?_
  refine r_aload_n (pc := 0) cx dX10_journal_0 0 rfl ?_
  refine r_get (pc := 1) cx cf_X10 0 26 rfl (by decide) rfl wd_1342 dX10_journal_1 ?_
  refine r_sipush (pc := 4) cx dX10_journal_4 sp_265 ?_
  refine r_iald (pc := 7) cx 15 rfl (by decide) dX10_journal_7 ?_
  refine r_bipush (pc := 8) cx dX10_journal_8 bp_16 ?_
  obtain ⟨J2, eJ2, hf⟩ := nm_of hf
  have hJ2 : ∀ (f1 : (Nat → Int32)), J2 f1 = some o_v → WW p l e rm_M_journal s m args below meth c D A 4 0 0 (MQ below (QV D K A (cl_M K q o_v)) args s 0 0 A) ([((q 0), ob 9 [.int (M_thrown v), .ref (q 1), .int (M_taped (M_tp v)), .ref (q 2), .ref (q 3), .ref (q 4), .ref (q 5), .ref (q 6), .ref (q 7), .ref (q 8), .ref (q 9), .ref (q 10), .ref (q 11), .ref (q 12), .ref (q 13), .ref (q 14), .int (M_lines (M_rd v)), .int (M_size (M_rd v)), .int (M_at (M_rd v)), .int (M_place (M_rd v)), .int (M_sort (M_rd v)), .int (M_value (M_rd v)), .int (M_fault (M_rd v)), .int (M_faultPlace (M_rd v)), .int (M_lastFault (M_lf v)), .int (M_lastPlace (M_lf v)), .ref (q 15), .ref (q 16), .ref (q 17), .ref (q 18), .int (M_hasImage (M_im v)), .int (M_spanNow (M_rn v)), .ref (q 19), .int (M_placeThen (M_rn v)), .int (M_alonePlace (M_al v)), .int (M_aloneSteps (M_al v)), .int (M_aloneOut (M_al v)), .ref (q 20), .ref (q 21), .ref (q 22), .ref (q 23), .int (M_shotAlarm (M_ex v)), .int (M_drawn (M_ex v))]), ((q 1), aI K 700 (M_tape (M_tp v))), ((q 2), aI K 20 (M_number (M_cd v))), ((q 3), aZ K 5 (M_isTold (M_rd v))), ((q 4), aI K 80 (M_codeSort (M_cd v))), ((q 5), aI K 80 (M_codeA (M_cd v))), ((q 6), aI K 80 (M_codeB (M_cd v))), ((q 7), aI K 80 (M_codeC (M_cd v))), ((q 8), aI K 80 (M_codeName (M_cd v))), ((q 9), aI K 80 (M_codePlace (M_cd v))), ((q 10), aI K 80 (M_codeTo (M_cd v))), ((q 11), aI K 280 (M_labelName (M_cd v))), ((q 12), aI K 280 (M_labelAt (M_cd v))), ((q 13), aI K 64 (M_data (M_cd v))), ((q 14), aZ K 32 (M_hasData (M_rd v))), ((q 15), aI K 314 f1), ((q 16), aI K 314 (M_aside (M_ex v))), ((q 17), aI K 314 (M_further (M_ex v))), ((q 18), aI K 314 (M_image (M_im v))), ((q 19), aI K 3 (M_sizeNow (M_rn v))), ((q 20), aI K 8 (M_aloneRegister (M_al v))), ((q 21), aI K 4 (M_aloneReal (M_al v))), ((q 22), aI K 32 (M_aloneMemory (M_al v))), ((q 23), aI K 999 (M_aloneOutput (M_al v)))]) ([(0, .ref (q 0)), (1, .int a1), (2, .int a2)]) ([]) 61 := by
    intro f1 hf
    rw [eJ2] at hf
    refine r_sipush (pc := 61) cx dX10_journal_61 sp_266 ?_
    refine r_iconst (pc := 64) cx dX10_journal_64 ic_3 ?_
    refine r_aload_n (pc := 65) cx dX10_journal_65 0 rfl ?_
    refine r_get (pc := 66) cx cf_X10 0 26 rfl (by decide) rfl wd_1342 dX10_journal_66 ?_
    refine r_sipush (pc := 69) cx dX10_journal_69 sp_265 ?_
    refine r_iald (pc := 72) cx 15 rfl (by decide) dX10_journal_72 ?_
    refine r_imul (pc := 73) cx dX10_journal_73 ?_
    refine r_iadd (pc := 74) cx dX10_journal_74 ?_
    obtain ⟨x3, ex3, hf⟩ := nm_of hf
    refine r_nm ex3 ?_
    refine r_istore_n (pc := 75) (loc' := [(3, .int x3), (0, .ref (q 0)), (1, .int a1), (2, .int a2)]) cx dX10_journal_75 rfl (by decide) rfl ?_
    refine r_aload_n (pc := 76) cx dX10_journal_76 1 rfl ?_
    refine r_get (pc := 77) cx cf_X10 0 26 rfl (by decide) rfl wd_1342 dX10_journal_77 ?_
    refine r_iload_n (pc := 80) cx dX10_journal_80 0 rfl ?_
    refine r_iload_n (pc := 81) cx dX10_journal_81 2 rfl ?_
    refine r_bipush (pc := 82) cx dX10_journal_82 bp_32 ?_
    obtain ⟨J5, eJ5, hf⟩ := nm_of hf
    have hJ5 : ∀ (y4 : Int32), J5 y4 = some o_v → WW p l e rm_M_journal s m args below meth c D A 4 0 0 (MQ below (QV D K A (cl_M K q o_v)) args s 0 0 A) ([((q 0), ob 9 [.int (M_thrown v), .ref (q 1), .int (M_taped (M_tp v)), .ref (q 2), .ref (q 3), .ref (q 4), .ref (q 5), .ref (q 6), .ref (q 7), .ref (q 8), .ref (q 9), .ref (q 10), .ref (q 11), .ref (q 12), .ref (q 13), .ref (q 14), .int (M_lines (M_rd v)), .int (M_size (M_rd v)), .int (M_at (M_rd v)), .int (M_place (M_rd v)), .int (M_sort (M_rd v)), .int (M_value (M_rd v)), .int (M_fault (M_rd v)), .int (M_faultPlace (M_rd v)), .int (M_lastFault (M_lf v)), .int (M_lastPlace (M_lf v)), .ref (q 15), .ref (q 16), .ref (q 17), .ref (q 18), .int (M_hasImage (M_im v)), .int (M_spanNow (M_rn v)), .ref (q 19), .int (M_placeThen (M_rn v)), .int (M_alonePlace (M_al v)), .int (M_aloneSteps (M_al v)), .int (M_aloneOut (M_al v)), .ref (q 20), .ref (q 21), .ref (q 22), .ref (q 23), .int (M_shotAlarm (M_ex v)), .int (M_drawn (M_ex v))]), ((q 1), aI K 700 (M_tape (M_tp v))), ((q 2), aI K 20 (M_number (M_cd v))), ((q 3), aZ K 5 (M_isTold (M_rd v))), ((q 4), aI K 80 (M_codeSort (M_cd v))), ((q 5), aI K 80 (M_codeA (M_cd v))), ((q 6), aI K 80 (M_codeB (M_cd v))), ((q 7), aI K 80 (M_codeC (M_cd v))), ((q 8), aI K 80 (M_codeName (M_cd v))), ((q 9), aI K 80 (M_codePlace (M_cd v))), ((q 10), aI K 80 (M_codeTo (M_cd v))), ((q 11), aI K 280 (M_labelName (M_cd v))), ((q 12), aI K 280 (M_labelAt (M_cd v))), ((q 13), aI K 64 (M_data (M_cd v))), ((q 14), aZ K 32 (M_hasData (M_rd v))), ((q 15), aI K 314 f1), ((q 16), aI K 314 (M_aside (M_ex v))), ((q 17), aI K 314 (M_further (M_ex v))), ((q 18), aI K 314 (M_image (M_im v))), ((q 19), aI K 3 (M_sizeNow (M_rn v))), ((q 20), aI K 8 (M_aloneRegister (M_al v))), ((q 21), aI K 4 (M_aloneReal (M_al v))), ((q 22), aI K 32 (M_aloneMemory (M_al v))), ((q 23), aI K 999 (M_aloneOutput (M_al v)))]) ([(0, .ref (q 0)), (1, .int a1), (2, .int a2), (3, .int x3)]) ([.int y4, .int x3, .ref (q 15)]) 93 := by
      intro y4 hf
      rw [eJ5] at hf
      obtain ⟨h6, hf⟩ := chk_of hf
      obtain ⟨f7, ef7, hf⟩ := nm_of hf
      refine r_iast (pc := 93) (ws' := [((q 0), ob 9 [.int (M_thrown v), .ref (q 1), .int (M_taped (M_tp v)), .ref (q 2), .ref (q 3), .ref (q 4), .ref (q 5), .ref (q 6), .ref (q 7), .ref (q 8), .ref (q 9), .ref (q 10), .ref (q 11), .ref (q 12), .ref (q 13), .ref (q 14), .int (M_lines (M_rd v)), .int (M_size (M_rd v)), .int (M_at (M_rd v)), .int (M_place (M_rd v)), .int (M_sort (M_rd v)), .int (M_value (M_rd v)), .int (M_fault (M_rd v)), .int (M_faultPlace (M_rd v)), .int (M_lastFault (M_lf v)), .int (M_lastPlace (M_lf v)), .ref (q 15), .ref (q 16), .ref (q 17), .ref (q 18), .int (M_hasImage (M_im v)), .int (M_spanNow (M_rn v)), .ref (q 19), .int (M_placeThen (M_rn v)), .int (M_alonePlace (M_al v)), .int (M_aloneSteps (M_al v)), .int (M_aloneOut (M_al v)), .ref (q 20), .ref (q 21), .ref (q 22), .ref (q 23), .int (M_shotAlarm (M_ex v)), .int (M_drawn (M_ex v))]), ((q 1), aI K 700 (M_tape (M_tp v))), ((q 2), aI K 20 (M_number (M_cd v))), ((q 3), aZ K 5 (M_isTold (M_rd v))), ((q 4), aI K 80 (M_codeSort (M_cd v))), ((q 5), aI K 80 (M_codeA (M_cd v))), ((q 6), aI K 80 (M_codeB (M_cd v))), ((q 7), aI K 80 (M_codeC (M_cd v))), ((q 8), aI K 80 (M_codeName (M_cd v))), ((q 9), aI K 80 (M_codePlace (M_cd v))), ((q 10), aI K 80 (M_codeTo (M_cd v))), ((q 11), aI K 280 (M_labelName (M_cd v))), ((q 12), aI K 280 (M_labelAt (M_cd v))), ((q 13), aI K 64 (M_data (M_cd v))), ((q 14), aZ K 32 (M_hasData (M_rd v))), ((q 15), aI K 314 f7), ((q 16), aI K 314 (M_aside (M_ex v))), ((q 17), aI K 314 (M_further (M_ex v))), ((q 18), aI K 314 (M_image (M_im v))), ((q 19), aI K 3 (M_sizeNow (M_rn v))), ((q 20), aI K 8 (M_aloneRegister (M_al v))), ((q 21), aI K 4 (M_aloneReal (M_al v))), ((q 22), aI K 32 (M_aloneMemory (M_al v))), ((q 23), aI K 999 (M_aloneOutput (M_al v)))]) cx 15 rfl h6 dX10_journal_93 ef7 rfl ?_
      refine r_aload_n (pc := 94) cx dX10_journal_94 0 rfl ?_
      refine r_get (pc := 95) cx cf_X10 0 26 rfl (by decide) rfl wd_1342 dX10_journal_95 ?_
      refine r_iload_n (pc := 98) cx dX10_journal_98 3 rfl ?_
      refine r_iconst (pc := 99) cx dX10_journal_99 ic_1 ?_
      refine r_iadd (pc := 100) cx dX10_journal_100 ?_
      refine r_iload_n (pc := 101) cx dX10_journal_101 2 rfl ?_
      obtain ⟨h8, hf⟩ := chk_of hf
      obtain ⟨f9, ef9, hf⟩ := nm_of hf
      refine r_iast (pc := 102) (ws' := [((q 0), ob 9 [.int (M_thrown v), .ref (q 1), .int (M_taped (M_tp v)), .ref (q 2), .ref (q 3), .ref (q 4), .ref (q 5), .ref (q 6), .ref (q 7), .ref (q 8), .ref (q 9), .ref (q 10), .ref (q 11), .ref (q 12), .ref (q 13), .ref (q 14), .int (M_lines (M_rd v)), .int (M_size (M_rd v)), .int (M_at (M_rd v)), .int (M_place (M_rd v)), .int (M_sort (M_rd v)), .int (M_value (M_rd v)), .int (M_fault (M_rd v)), .int (M_faultPlace (M_rd v)), .int (M_lastFault (M_lf v)), .int (M_lastPlace (M_lf v)), .ref (q 15), .ref (q 16), .ref (q 17), .ref (q 18), .int (M_hasImage (M_im v)), .int (M_spanNow (M_rn v)), .ref (q 19), .int (M_placeThen (M_rn v)), .int (M_alonePlace (M_al v)), .int (M_aloneSteps (M_al v)), .int (M_aloneOut (M_al v)), .ref (q 20), .ref (q 21), .ref (q 22), .ref (q 23), .int (M_shotAlarm (M_ex v)), .int (M_drawn (M_ex v))]), ((q 1), aI K 700 (M_tape (M_tp v))), ((q 2), aI K 20 (M_number (M_cd v))), ((q 3), aZ K 5 (M_isTold (M_rd v))), ((q 4), aI K 80 (M_codeSort (M_cd v))), ((q 5), aI K 80 (M_codeA (M_cd v))), ((q 6), aI K 80 (M_codeB (M_cd v))), ((q 7), aI K 80 (M_codeC (M_cd v))), ((q 8), aI K 80 (M_codeName (M_cd v))), ((q 9), aI K 80 (M_codePlace (M_cd v))), ((q 10), aI K 80 (M_codeTo (M_cd v))), ((q 11), aI K 280 (M_labelName (M_cd v))), ((q 12), aI K 280 (M_labelAt (M_cd v))), ((q 13), aI K 64 (M_data (M_cd v))), ((q 14), aZ K 32 (M_hasData (M_rd v))), ((q 15), aI K 314 f9), ((q 16), aI K 314 (M_aside (M_ex v))), ((q 17), aI K 314 (M_further (M_ex v))), ((q 18), aI K 314 (M_image (M_im v))), ((q 19), aI K 3 (M_sizeNow (M_rn v))), ((q 20), aI K 8 (M_aloneRegister (M_al v))), ((q 21), aI K 4 (M_aloneReal (M_al v))), ((q 22), aI K 32 (M_aloneMemory (M_al v))), ((q 23), aI K 999 (M_aloneOutput (M_al v)))]) cx 15 rfl h8 dX10_journal_102 ef9 rfl ?_
      refine r_aload_n (pc := 103) cx dX10_journal_103 0 rfl ?_
      refine r_get (pc := 104) cx cf_X10 0 26 rfl (by decide) rfl wd_1342 dX10_journal_104 ?_
      refine r_iload_n (pc := 107) cx dX10_journal_107 3 rfl ?_
      refine r_iconst (pc := 108) cx dX10_journal_108 ic_2 ?_
      refine r_iadd (pc := 109) cx dX10_journal_109 ?_
      refine r_aload_n (pc := 110) cx dX10_journal_110 0 rfl ?_
      refine r_get (pc := 111) cx cf_X10 0 26 rfl (by decide) rfl wd_1342 dX10_journal_111 ?_
      refine r_sipush (pc := 114) cx dX10_journal_114 sp_220 ?_
      refine r_iald (pc := 117) cx 15 rfl (by decide) dX10_journal_117 ?_
      obtain ⟨x10, ex10, hf⟩ := nm_of hf
      refine r_nm ex10 ?_
      obtain ⟨h11, hf⟩ := chk_of hf
      obtain ⟨f12, ef12, hf⟩ := nm_of hf
      refine r_iast (pc := 118) (ws' := [((q 0), ob 9 [.int (M_thrown v), .ref (q 1), .int (M_taped (M_tp v)), .ref (q 2), .ref (q 3), .ref (q 4), .ref (q 5), .ref (q 6), .ref (q 7), .ref (q 8), .ref (q 9), .ref (q 10), .ref (q 11), .ref (q 12), .ref (q 13), .ref (q 14), .int (M_lines (M_rd v)), .int (M_size (M_rd v)), .int (M_at (M_rd v)), .int (M_place (M_rd v)), .int (M_sort (M_rd v)), .int (M_value (M_rd v)), .int (M_fault (M_rd v)), .int (M_faultPlace (M_rd v)), .int (M_lastFault (M_lf v)), .int (M_lastPlace (M_lf v)), .ref (q 15), .ref (q 16), .ref (q 17), .ref (q 18), .int (M_hasImage (M_im v)), .int (M_spanNow (M_rn v)), .ref (q 19), .int (M_placeThen (M_rn v)), .int (M_alonePlace (M_al v)), .int (M_aloneSteps (M_al v)), .int (M_aloneOut (M_al v)), .ref (q 20), .ref (q 21), .ref (q 22), .ref (q 23), .int (M_shotAlarm (M_ex v)), .int (M_drawn (M_ex v))]), ((q 1), aI K 700 (M_tape (M_tp v))), ((q 2), aI K 20 (M_number (M_cd v))), ((q 3), aZ K 5 (M_isTold (M_rd v))), ((q 4), aI K 80 (M_codeSort (M_cd v))), ((q 5), aI K 80 (M_codeA (M_cd v))), ((q 6), aI K 80 (M_codeB (M_cd v))), ((q 7), aI K 80 (M_codeC (M_cd v))), ((q 8), aI K 80 (M_codeName (M_cd v))), ((q 9), aI K 80 (M_codePlace (M_cd v))), ((q 10), aI K 80 (M_codeTo (M_cd v))), ((q 11), aI K 280 (M_labelName (M_cd v))), ((q 12), aI K 280 (M_labelAt (M_cd v))), ((q 13), aI K 64 (M_data (M_cd v))), ((q 14), aZ K 32 (M_hasData (M_rd v))), ((q 15), aI K 314 f12), ((q 16), aI K 314 (M_aside (M_ex v))), ((q 17), aI K 314 (M_further (M_ex v))), ((q 18), aI K 314 (M_image (M_im v))), ((q 19), aI K 3 (M_sizeNow (M_rn v))), ((q 20), aI K 8 (M_aloneRegister (M_al v))), ((q 21), aI K 4 (M_aloneReal (M_al v))), ((q 22), aI K 32 (M_aloneMemory (M_al v))), ((q 23), aI K 999 (M_aloneOutput (M_al v)))]) cx 15 rfl h11 dX10_journal_118 ef12 rfl ?_
      refine r_aload_n (pc := 119) cx dX10_journal_119 0 rfl ?_
      refine r_get (pc := 120) cx cf_X10 0 26 rfl (by decide) rfl wd_1342 dX10_journal_120 ?_
      refine r_sipush (pc := 123) cx dX10_journal_123 sp_265 ?_
      refine r_dup2 (pc := 126) cx dX10_journal_126 rfl rfl ?_
      refine r_iald (pc := 127) cx 15 rfl (by decide) dX10_journal_127 ?_
      refine r_iconst (pc := 128) cx dX10_journal_128 ic_1 ?_
      refine r_iadd (pc := 129) cx dX10_journal_129 ?_
      obtain ⟨x13, ex13, hf⟩ := nm_of hf
      refine r_nm ex13 ?_
      obtain ⟨f14, ef14, hf⟩ := nm_of hf
      refine r_iast (pc := 130) (ws' := [((q 0), ob 9 [.int (M_thrown v), .ref (q 1), .int (M_taped (M_tp v)), .ref (q 2), .ref (q 3), .ref (q 4), .ref (q 5), .ref (q 6), .ref (q 7), .ref (q 8), .ref (q 9), .ref (q 10), .ref (q 11), .ref (q 12), .ref (q 13), .ref (q 14), .int (M_lines (M_rd v)), .int (M_size (M_rd v)), .int (M_at (M_rd v)), .int (M_place (M_rd v)), .int (M_sort (M_rd v)), .int (M_value (M_rd v)), .int (M_fault (M_rd v)), .int (M_faultPlace (M_rd v)), .int (M_lastFault (M_lf v)), .int (M_lastPlace (M_lf v)), .ref (q 15), .ref (q 16), .ref (q 17), .ref (q 18), .int (M_hasImage (M_im v)), .int (M_spanNow (M_rn v)), .ref (q 19), .int (M_placeThen (M_rn v)), .int (M_alonePlace (M_al v)), .int (M_aloneSteps (M_al v)), .int (M_aloneOut (M_al v)), .ref (q 20), .ref (q 21), .ref (q 22), .ref (q 23), .int (M_shotAlarm (M_ex v)), .int (M_drawn (M_ex v))]), ((q 1), aI K 700 (M_tape (M_tp v))), ((q 2), aI K 20 (M_number (M_cd v))), ((q 3), aZ K 5 (M_isTold (M_rd v))), ((q 4), aI K 80 (M_codeSort (M_cd v))), ((q 5), aI K 80 (M_codeA (M_cd v))), ((q 6), aI K 80 (M_codeB (M_cd v))), ((q 7), aI K 80 (M_codeC (M_cd v))), ((q 8), aI K 80 (M_codeName (M_cd v))), ((q 9), aI K 80 (M_codePlace (M_cd v))), ((q 10), aI K 80 (M_codeTo (M_cd v))), ((q 11), aI K 280 (M_labelName (M_cd v))), ((q 12), aI K 280 (M_labelAt (M_cd v))), ((q 13), aI K 64 (M_data (M_cd v))), ((q 14), aZ K 32 (M_hasData (M_rd v))), ((q 15), aI K 314 f14), ((q 16), aI K 314 (M_aside (M_ex v))), ((q 17), aI K 314 (M_further (M_ex v))), ((q 18), aI K 314 (M_image (M_im v))), ((q 19), aI K 3 (M_sizeNow (M_rn v))), ((q 20), aI K 8 (M_aloneRegister (M_al v))), ((q 21), aI K 4 (M_aloneReal (M_al v))), ((q 22), aI K 32 (M_aloneMemory (M_al v))), ((q 23), aI K 999 (M_aloneOutput (M_al v)))]) cx 15 rfl (by decide) dX10_journal_130 ef14 rfl ?_
      refine r_iload_n (pc := 131) cx dX10_journal_131 1 rfl ?_
      refine r_bipush (pc := 132) cx dX10_journal_132 bp_32 ?_
      refine r_icmp_lt (pc := 134) (tgt := 146) cx dX10_journal_134 (by decide) (fun h15 => ?_) (fun h15 => ?_)
      · have hf := ifp h15 hf
        cases hf
        exact r_vret (pc := 146) cx rfl dX10_journal_146
      · have hf := ifn h15 hf
        refine r_aload_n (pc := 137) cx dX10_journal_137 0 rfl ?_
        refine r_get (pc := 138) cx cf_X10 0 26 rfl (by decide) rfl wd_1342 dX10_journal_138 ?_
        refine r_sipush (pc := 141) cx dX10_journal_141 sp_232 ?_
        refine r_iconst (pc := 144) cx dX10_journal_144 ic_1 ?_
        obtain ⟨f16, ef16, hf⟩ := nm_of hf
        refine r_iast (pc := 145) (ws' := [((q 0), ob 9 [.int (M_thrown v), .ref (q 1), .int (M_taped (M_tp v)), .ref (q 2), .ref (q 3), .ref (q 4), .ref (q 5), .ref (q 6), .ref (q 7), .ref (q 8), .ref (q 9), .ref (q 10), .ref (q 11), .ref (q 12), .ref (q 13), .ref (q 14), .int (M_lines (M_rd v)), .int (M_size (M_rd v)), .int (M_at (M_rd v)), .int (M_place (M_rd v)), .int (M_sort (M_rd v)), .int (M_value (M_rd v)), .int (M_fault (M_rd v)), .int (M_faultPlace (M_rd v)), .int (M_lastFault (M_lf v)), .int (M_lastPlace (M_lf v)), .ref (q 15), .ref (q 16), .ref (q 17), .ref (q 18), .int (M_hasImage (M_im v)), .int (M_spanNow (M_rn v)), .ref (q 19), .int (M_placeThen (M_rn v)), .int (M_alonePlace (M_al v)), .int (M_aloneSteps (M_al v)), .int (M_aloneOut (M_al v)), .ref (q 20), .ref (q 21), .ref (q 22), .ref (q 23), .int (M_shotAlarm (M_ex v)), .int (M_drawn (M_ex v))]), ((q 1), aI K 700 (M_tape (M_tp v))), ((q 2), aI K 20 (M_number (M_cd v))), ((q 3), aZ K 5 (M_isTold (M_rd v))), ((q 4), aI K 80 (M_codeSort (M_cd v))), ((q 5), aI K 80 (M_codeA (M_cd v))), ((q 6), aI K 80 (M_codeB (M_cd v))), ((q 7), aI K 80 (M_codeC (M_cd v))), ((q 8), aI K 80 (M_codeName (M_cd v))), ((q 9), aI K 80 (M_codePlace (M_cd v))), ((q 10), aI K 80 (M_codeTo (M_cd v))), ((q 11), aI K 280 (M_labelName (M_cd v))), ((q 12), aI K 280 (M_labelAt (M_cd v))), ((q 13), aI K 64 (M_data (M_cd v))), ((q 14), aZ K 32 (M_hasData (M_rd v))), ((q 15), aI K 314 f16), ((q 16), aI K 314 (M_aside (M_ex v))), ((q 17), aI K 314 (M_further (M_ex v))), ((q 18), aI K 314 (M_image (M_im v))), ((q 19), aI K 3 (M_sizeNow (M_rn v))), ((q 20), aI K 8 (M_aloneRegister (M_al v))), ((q 21), aI K 4 (M_aloneReal (M_al v))), ((q 22), aI K 32 (M_aloneMemory (M_al v))), ((q 23), aI K 999 (M_aloneOutput (M_al v)))]) cx 15 rfl (by decide) dX10_journal_145 ef16 rfl ?_
        cases hf
        exact r_vret (pc := 146) cx rfl dX10_journal_146
    refine r_icmp_ge (pc := 84) (tgt := 91) cx dX10_journal_84 (by decide) (fun h17 => ?_) (fun h17 => ?_)
    · have hf := ifp h17 hf
      refine r_bipush (pc := 91) cx dX10_journal_91 bp_32 ?_
      refine r_loc (loc' := [(0, .ref (q 0)), (1, .int a1), (2, .int a2), (3, .int x3)]) [1, 2, 3, 0] rfl ?_
      exact hJ5 _ hf
    · have hf := ifn h17 hf
      refine r_iload_n (pc := 87) cx dX10_journal_87 2 rfl ?_
      refine r_goto (pc := 88) (tgt := 93) cx dX10_journal_88 (by decide) ?_
      refine r_loc (loc' := [(0, .ref (q 0)), (1, .int a1), (2, .int a2), (3, .int x3)]) [1, 2, 3, 0] rfl ?_
      exact hJ5 _ hf
  refine r_icmp_ne (pc := 10) (tgt := 61) cx dX10_journal_10 (by decide) (fun h18 => ?_) (fun h18 => ?_)
  · have hf := ifn h18 hf
    exact hJ2 _ hf
  · have hf := ifp h18 hf
    refine r_iconst (pc := 13) cx dX10_journal_13 ic_0 ?_
    refine r_istore_n (pc := 14) (loc' := [(3, .int (0 : Int32)), (0, .ref (q 0)), (1, .int a1), (2, .int a2)]) cx dX10_journal_14 rfl (by decide) rfl ?_
    have hL15 : ∀ (k15_49 : (Nat → Int32) → Option (T_M)), (∀ (f21 : (Nat → Int32)), k15_49 f21 = some o_v → WW p l e rm_M_journal s m args below meth c D A 4 0 0 (MQ below (QV D K A (cl_M K q o_v)) args s 0 0 A) ([((q 0), ob 9 [.int (M_thrown v), .ref (q 1), .int (M_taped (M_tp v)), .ref (q 2), .ref (q 3), .ref (q 4), .ref (q 5), .ref (q 6), .ref (q 7), .ref (q 8), .ref (q 9), .ref (q 10), .ref (q 11), .ref (q 12), .ref (q 13), .ref (q 14), .int (M_lines (M_rd v)), .int (M_size (M_rd v)), .int (M_at (M_rd v)), .int (M_place (M_rd v)), .int (M_sort (M_rd v)), .int (M_value (M_rd v)), .int (M_fault (M_rd v)), .int (M_faultPlace (M_rd v)), .int (M_lastFault (M_lf v)), .int (M_lastPlace (M_lf v)), .ref (q 15), .ref (q 16), .ref (q 17), .ref (q 18), .int (M_hasImage (M_im v)), .int (M_spanNow (M_rn v)), .ref (q 19), .int (M_placeThen (M_rn v)), .int (M_alonePlace (M_al v)), .int (M_aloneSteps (M_al v)), .int (M_aloneOut (M_al v)), .ref (q 20), .ref (q 21), .ref (q 22), .ref (q 23), .int (M_shotAlarm (M_ex v)), .int (M_drawn (M_ex v))]), ((q 1), aI K 700 (M_tape (M_tp v))), ((q 2), aI K 20 (M_number (M_cd v))), ((q 3), aZ K 5 (M_isTold (M_rd v))), ((q 4), aI K 80 (M_codeSort (M_cd v))), ((q 5), aI K 80 (M_codeA (M_cd v))), ((q 6), aI K 80 (M_codeB (M_cd v))), ((q 7), aI K 80 (M_codeC (M_cd v))), ((q 8), aI K 80 (M_codeName (M_cd v))), ((q 9), aI K 80 (M_codePlace (M_cd v))), ((q 10), aI K 80 (M_codeTo (M_cd v))), ((q 11), aI K 280 (M_labelName (M_cd v))), ((q 12), aI K 280 (M_labelAt (M_cd v))), ((q 13), aI K 64 (M_data (M_cd v))), ((q 14), aZ K 32 (M_hasData (M_rd v))), ((q 15), aI K 314 f21), ((q 16), aI K 314 (M_aside (M_ex v))), ((q 17), aI K 314 (M_further (M_ex v))), ((q 18), aI K 314 (M_image (M_im v))), ((q 19), aI K 3 (M_sizeNow (M_rn v))), ((q 20), aI K 8 (M_aloneRegister (M_al v))), ((q 21), aI K 4 (M_aloneReal (M_al v))), ((q 22), aI K 32 (M_aloneMemory (M_al v))), ((q 23), aI K 999 (M_aloneOutput (M_al v)))]) ([(0, .ref (q 0)), (1, .int a1), (2, .int a2)]) ([]) 49) → ∀ (n15 : Nat) (x19 : Int32) (f20 : (Nat → Int32)), f_M_journal_L15 k15_49 n15 x19 f20 = some o_v → WW p l e rm_M_journal s m args below meth c D A 4 0 0 (MQ below (QV D K A (cl_M K q o_v)) args s 0 0 A) ([((q 0), ob 9 [.int (M_thrown v), .ref (q 1), .int (M_taped (M_tp v)), .ref (q 2), .ref (q 3), .ref (q 4), .ref (q 5), .ref (q 6), .ref (q 7), .ref (q 8), .ref (q 9), .ref (q 10), .ref (q 11), .ref (q 12), .ref (q 13), .ref (q 14), .int (M_lines (M_rd v)), .int (M_size (M_rd v)), .int (M_at (M_rd v)), .int (M_place (M_rd v)), .int (M_sort (M_rd v)), .int (M_value (M_rd v)), .int (M_fault (M_rd v)), .int (M_faultPlace (M_rd v)), .int (M_lastFault (M_lf v)), .int (M_lastPlace (M_lf v)), .ref (q 15), .ref (q 16), .ref (q 17), .ref (q 18), .int (M_hasImage (M_im v)), .int (M_spanNow (M_rn v)), .ref (q 19), .int (M_placeThen (M_rn v)), .int (M_alonePlace (M_al v)), .int (M_aloneSteps (M_al v)), .int (M_aloneOut (M_al v)), .ref (q 20), .ref (q 21), .ref (q 22), .ref (q 23), .int (M_shotAlarm (M_ex v)), .int (M_drawn (M_ex v))]), ((q 1), aI K 700 (M_tape (M_tp v))), ((q 2), aI K 20 (M_number (M_cd v))), ((q 3), aZ K 5 (M_isTold (M_rd v))), ((q 4), aI K 80 (M_codeSort (M_cd v))), ((q 5), aI K 80 (M_codeA (M_cd v))), ((q 6), aI K 80 (M_codeB (M_cd v))), ((q 7), aI K 80 (M_codeC (M_cd v))), ((q 8), aI K 80 (M_codeName (M_cd v))), ((q 9), aI K 80 (M_codePlace (M_cd v))), ((q 10), aI K 80 (M_codeTo (M_cd v))), ((q 11), aI K 280 (M_labelName (M_cd v))), ((q 12), aI K 280 (M_labelAt (M_cd v))), ((q 13), aI K 64 (M_data (M_cd v))), ((q 14), aZ K 32 (M_hasData (M_rd v))), ((q 15), aI K 314 f20), ((q 16), aI K 314 (M_aside (M_ex v))), ((q 17), aI K 314 (M_further (M_ex v))), ((q 18), aI K 314 (M_image (M_im v))), ((q 19), aI K 3 (M_sizeNow (M_rn v))), ((q 20), aI K 8 (M_aloneRegister (M_al v))), ((q 21), aI K 4 (M_aloneReal (M_al v))), ((q 22), aI K 32 (M_aloneMemory (M_al v))), ((q 23), aI K 999 (M_aloneOutput (M_al v)))]) ([(0, .ref (q 0)), (1, .int a1), (2, .int a2), (3, .int x19)]) ([]) 15 := by
      intro k15_49 hk15_49 n15
      induction n15 with
      | zero => intro x19 f20 hf; exact (nomatch (show (none : Option (T_M)) = some _ from hf))
      | succ n15 ih15 =>
        intro x19 f20 hf
        rw [f_M_journal_L15] at hf
        refine r_iload_n (pc := 15) cx dX10_journal_15 3 rfl ?_
        refine r_bipush (pc := 16) cx dX10_journal_16 bp_45 ?_
        refine r_icmp_ge (pc := 18) (tgt := 49) cx dX10_journal_18 (by decide) (fun h22 => ?_) (fun h22 => ?_)
        · have hf := ifp h22 hf
          refine r_loc (loc' := [(0, .ref (q 0)), (1, .int a1), (2, .int a2)]) [0, 1, 2] rfl ?_
          exact hk15_49 _ hf
        · have hf := ifn h22 hf
          refine r_aload_n (pc := 21) cx dX10_journal_21 0 rfl ?_
          refine r_get (pc := 22) cx cf_X10 0 26 rfl (by decide) rfl wd_1342 dX10_journal_22 ?_
          refine r_sipush (pc := 25) cx dX10_journal_25 sp_266 ?_
          refine r_iload_n (pc := 28) cx dX10_journal_28 3 rfl ?_
          refine r_iadd (pc := 29) cx dX10_journal_29 ?_
          refine r_aload_n (pc := 30) cx dX10_journal_30 0 rfl ?_
          refine r_get (pc := 31) cx cf_X10 0 26 rfl (by decide) rfl wd_1342 dX10_journal_31 ?_
          refine r_sipush (pc := 34) cx dX10_journal_34 sp_266 ?_
          refine r_iload_n (pc := 37) cx dX10_journal_37 3 rfl ?_
          refine r_iadd (pc := 38) cx dX10_journal_38 ?_
          refine r_iconst (pc := 39) cx dX10_journal_39 ic_3 ?_
          refine r_iadd (pc := 40) cx dX10_journal_40 ?_
          obtain ⟨h23, hf⟩ := chk_of hf
          refine r_iald (pc := 41) cx 15 rfl h23 dX10_journal_41 ?_
          obtain ⟨x24, ex24, hf⟩ := nm_of hf
          refine r_nm ex24 ?_
          obtain ⟨h25, hf⟩ := chk_of hf
          obtain ⟨f26, ef26, hf⟩ := nm_of hf
          refine r_iast (pc := 42) (ws' := [((q 0), ob 9 [.int (M_thrown v), .ref (q 1), .int (M_taped (M_tp v)), .ref (q 2), .ref (q 3), .ref (q 4), .ref (q 5), .ref (q 6), .ref (q 7), .ref (q 8), .ref (q 9), .ref (q 10), .ref (q 11), .ref (q 12), .ref (q 13), .ref (q 14), .int (M_lines (M_rd v)), .int (M_size (M_rd v)), .int (M_at (M_rd v)), .int (M_place (M_rd v)), .int (M_sort (M_rd v)), .int (M_value (M_rd v)), .int (M_fault (M_rd v)), .int (M_faultPlace (M_rd v)), .int (M_lastFault (M_lf v)), .int (M_lastPlace (M_lf v)), .ref (q 15), .ref (q 16), .ref (q 17), .ref (q 18), .int (M_hasImage (M_im v)), .int (M_spanNow (M_rn v)), .ref (q 19), .int (M_placeThen (M_rn v)), .int (M_alonePlace (M_al v)), .int (M_aloneSteps (M_al v)), .int (M_aloneOut (M_al v)), .ref (q 20), .ref (q 21), .ref (q 22), .ref (q 23), .int (M_shotAlarm (M_ex v)), .int (M_drawn (M_ex v))]), ((q 1), aI K 700 (M_tape (M_tp v))), ((q 2), aI K 20 (M_number (M_cd v))), ((q 3), aZ K 5 (M_isTold (M_rd v))), ((q 4), aI K 80 (M_codeSort (M_cd v))), ((q 5), aI K 80 (M_codeA (M_cd v))), ((q 6), aI K 80 (M_codeB (M_cd v))), ((q 7), aI K 80 (M_codeC (M_cd v))), ((q 8), aI K 80 (M_codeName (M_cd v))), ((q 9), aI K 80 (M_codePlace (M_cd v))), ((q 10), aI K 80 (M_codeTo (M_cd v))), ((q 11), aI K 280 (M_labelName (M_cd v))), ((q 12), aI K 280 (M_labelAt (M_cd v))), ((q 13), aI K 64 (M_data (M_cd v))), ((q 14), aZ K 32 (M_hasData (M_rd v))), ((q 15), aI K 314 f26), ((q 16), aI K 314 (M_aside (M_ex v))), ((q 17), aI K 314 (M_further (M_ex v))), ((q 18), aI K 314 (M_image (M_im v))), ((q 19), aI K 3 (M_sizeNow (M_rn v))), ((q 20), aI K 8 (M_aloneRegister (M_al v))), ((q 21), aI K 4 (M_aloneReal (M_al v))), ((q 22), aI K 32 (M_aloneMemory (M_al v))), ((q 23), aI K 999 (M_aloneOutput (M_al v)))]) cx 15 rfl h25 dX10_journal_42 ef26 rfl ?_
          obtain ⟨x27, ex27, hf⟩ := nm_of hf
          refine r_iinc (pc := 43) (loc' := [(3, .int x27), (0, .ref (q 0)), (1, .int a1), (2, .int a2)]) (v := x27) cx dX10_journal_43 3 rfl ((congrArg (fun z => x19 + z) ic_1).trans ex27.symm) (by decide) rfl ?_
          refine r_goto (pc := 46) (tgt := 15) cx dX10_journal_46 (by decide) ?_
          refine r_loc (loc' := [(0, .ref (q 0)), (1, .int a1), (2, .int a2), (3, .int x27)]) [1, 2, 3, 0] rfl ?_
          exact ih15 _ _ hf
    refine r_loc (loc' := [(0, .ref (q 0)), (1, .int a1), (2, .int a2), (3, .int (0 : Int32))]) [1, 2, 3, 0] rfl ?_
    refine hL15 _ (fun f21 hf => ?_) _ _ _ hf
    refine r_aload_n (pc := 49) cx dX10_journal_49 0 rfl ?_
    refine r_get (pc := 50) cx cf_X10 0 26 rfl (by decide) rfl wd_1342 dX10_journal_50 ?_
    refine r_sipush (pc := 53) cx dX10_journal_53 sp_265 ?_
    refine r_dup2 (pc := 56) cx dX10_journal_56 rfl rfl ?_
    refine r_iald (pc := 57) cx 15 rfl (by decide) dX10_journal_57 ?_
    refine r_iconst (pc := 58) cx dX10_journal_58 ic_1 ?_
    refine r_isub (pc := 59) cx dX10_journal_59 ?_
    obtain ⟨x28, ex28, hf⟩ := nm_of hf
    refine r_nm ex28 ?_
    obtain ⟨f29, ef29, hf⟩ := nm_of hf
    refine r_iast (pc := 60) (ws' := [((q 0), ob 9 [.int (M_thrown v), .ref (q 1), .int (M_taped (M_tp v)), .ref (q 2), .ref (q 3), .ref (q 4), .ref (q 5), .ref (q 6), .ref (q 7), .ref (q 8), .ref (q 9), .ref (q 10), .ref (q 11), .ref (q 12), .ref (q 13), .ref (q 14), .int (M_lines (M_rd v)), .int (M_size (M_rd v)), .int (M_at (M_rd v)), .int (M_place (M_rd v)), .int (M_sort (M_rd v)), .int (M_value (M_rd v)), .int (M_fault (M_rd v)), .int (M_faultPlace (M_rd v)), .int (M_lastFault (M_lf v)), .int (M_lastPlace (M_lf v)), .ref (q 15), .ref (q 16), .ref (q 17), .ref (q 18), .int (M_hasImage (M_im v)), .int (M_spanNow (M_rn v)), .ref (q 19), .int (M_placeThen (M_rn v)), .int (M_alonePlace (M_al v)), .int (M_aloneSteps (M_al v)), .int (M_aloneOut (M_al v)), .ref (q 20), .ref (q 21), .ref (q 22), .ref (q 23), .int (M_shotAlarm (M_ex v)), .int (M_drawn (M_ex v))]), ((q 1), aI K 700 (M_tape (M_tp v))), ((q 2), aI K 20 (M_number (M_cd v))), ((q 3), aZ K 5 (M_isTold (M_rd v))), ((q 4), aI K 80 (M_codeSort (M_cd v))), ((q 5), aI K 80 (M_codeA (M_cd v))), ((q 6), aI K 80 (M_codeB (M_cd v))), ((q 7), aI K 80 (M_codeC (M_cd v))), ((q 8), aI K 80 (M_codeName (M_cd v))), ((q 9), aI K 80 (M_codePlace (M_cd v))), ((q 10), aI K 80 (M_codeTo (M_cd v))), ((q 11), aI K 280 (M_labelName (M_cd v))), ((q 12), aI K 280 (M_labelAt (M_cd v))), ((q 13), aI K 64 (M_data (M_cd v))), ((q 14), aZ K 32 (M_hasData (M_rd v))), ((q 15), aI K 314 f29), ((q 16), aI K 314 (M_aside (M_ex v))), ((q 17), aI K 314 (M_further (M_ex v))), ((q 18), aI K 314 (M_image (M_im v))), ((q 19), aI K 3 (M_sizeNow (M_rn v))), ((q 20), aI K 8 (M_aloneRegister (M_al v))), ((q 21), aI K 4 (M_aloneReal (M_al v))), ((q 22), aI K 32 (M_aloneMemory (M_al v))), ((q 23), aI K 999 (M_aloneOutput (M_al v)))]) cx 15 rfl (by decide) dX10_journal_60 ef29 rfl ?_
    exact hJ2 _ hf
theorem yv_X10_journal : YV yX10_journal cX10_journal 4 (none) 2 := ⟨⟨by decide +kernel, by decide +kernel, by decide +kernel⟩, wd_1686, wd_102, wd_1685, wd_71⟩
def f_M_leaves_L51  (k51_85 : (Nat → Int32) → Option (T_M)) : Nat → Int32 → (Nat → Int32) → Option (T_M)
  | 0, _, _ => none
  | n51 + 1, x13, f14 =>
    (if (40 : Int32) ≤ x13 then (k51_85 f14) else (if ix ((179 : Int32) + x13) 314 then (nm (f14 (((179 : Int32) + x13)).toNatClampNeg) fun (x18 : Int32) => (if ix (((179 : Int32) + x13) - (1 : Int32)) 314 then (nm (upd f14 ((((179 : Int32) + x13) - (1 : Int32))).toNatClampNeg x18) fun (f20 : Nat → Int32) => (nm (x13 + (1 : Int32)) fun (x21 : Int32) => (f_M_leaves_L51 k51_85 n51 x21 f20))) else none)) else none))
def f_M_leaves (v : T_M) (a1 : Int32) (a2 : Int32) : Option (T_M) :=
  (bd (f_M_journal v a1 a2) fun (v1 : T_M) => (if (32 : Int32) ≤ a1 then (nm (fun (f4 : (Nat → Int32)) => ((if ix ((179 : Int32) + (f4 (178 : Int32).toNatClampNeg)) 314 then (nm (upd f4 (((179 : Int32) + (f4 (178 : Int32).toNatClampNeg))).toNatClampNeg a2) fun (f7 : Nat → Int32) => (nm ((f7 (178 : Int32).toNatClampNeg) + (1 : Int32)) fun (x8 : Int32) => (nm (upd f7 (178 : Int32).toNatClampNeg x8) fun (f9 : Nat → Int32) => (nm ((f9 (225 : Int32).toNatClampNeg) + (1 : Int32)) fun (x10 : Int32) => (nm (upd f9 (225 : Int32).toNatClampNeg x10) fun (f11 : Nat → Int32) => (some ((M_tp v1), (M_rd v1), (M_lf v1), (M_cd v1), (f11, (M_spanNow (M_rn v1)), (M_sizeNow (M_rn v1)), (M_placeThen (M_rn v1))), (M_ex v1), (M_im v1), (M_al v1), (M_thrown v1)))))))) else none) : Option (T_M))) fun J5 => (if ((M_s (M_rn v1)) (178 : Int32).toNatClampNeg) = (40 : Int32) then (f_M_leaves_L51 (fun (f15 : (Nat → Int32)) => (nm ((f15 (178 : Int32).toNatClampNeg) - (1 : Int32)) fun (x22 : Int32) => (nm (upd f15 (178 : Int32).toNatClampNeg x22) fun (f23 : Nat → Int32) => (J5 f23)))) LF (1 : Int32) (M_s (M_rn v1))) else (J5 (M_s (M_rn v1))))) else (if ix ((146 : Int32) + a1) 314 then (nm (upd (M_s (M_rn v1)) (((146 : Int32) + a1)).toNatClampNeg a2) fun (f25 : Nat → Int32) => (nm ((f25 (224 : Int32).toNatClampNeg) + (1 : Int32)) fun (x26 : Int32) => (nm (upd f25 (224 : Int32).toNatClampNeg x26) fun (f27 : Nat → Int32) => (some ((M_tp v1), (M_rd v1), (M_lf v1), (M_cd v1), (f27, (M_spanNow (M_rn v1)), (M_sizeNow (M_rn v1)), (M_placeThen (M_rn v1))), (M_ex v1), (M_im v1), (M_al v1), (M_thrown v1)))))) else none)))
abbrev rm_M_leaves : Room := { frames := 1, cells := 0, slots := 0, locals := 23 }
set_option maxRecDepth 100000 in
set_option maxHeartbeats 4000000 in
theorem m_M_leaves (l : Launch) (D : va_G) (K : Nat → ClassId) (q : Nat → Nat) (v : T_M) (a1 : Int32) (a2 : Int32) {o_v : T_M} (hf : f_M_leaves v a1 a2 = some o_v) : MV l yX10_leaves cX10_leaves 4 (none) rm_M_leaves D K [.ref (q 0), .int a1, .int a2] (cl_M K q v) (cl_M K q o_v) := by
  refine MV_of (loc0 := [(0, .ref (q 0)), (1, .int a1), (2, .int a2)]) (by decide +kernel) rfl (Nat.le_of_ble_eq_true rfl) ?_
  intro p e s m args below meth c A cx
  unfold f_M_leaves at hf
  refine r_ws (ws' := [((q 0), ob 9 [.int (M_thrown v), .ref (q 1), .int (M_taped (M_tp v)), .ref (q 2), .ref (q 3), .ref (q 4), .ref (q 5), .ref (q 6), .ref (q 7), .ref (q 8), .ref (q 9), .ref (q 10), .ref (q 11), .ref (q 12), .ref (q 13), .ref (q 14), .int (M_lines (M_rd v)), .int (M_size (M_rd v)), .int (M_at (M_rd v)), .int (M_place (M_rd v)), .int (M_sort (M_rd v)), .int (M_value (M_rd v)), .int (M_fault (M_rd v)), .int (M_faultPlace (M_rd v)), .int (M_lastFault (M_lf v)), .int (M_lastPlace (M_lf v)), .ref (q 15), .ref (q 16), .ref (q 17), .ref (q 18), .int (M_hasImage (M_im v)), .int (M_spanNow (M_rn v)), .ref (q 19), .int (M_placeThen (M_rn v)), .int (M_alonePlace (M_al v)), .int (M_aloneSteps (M_al v)), .int (M_aloneOut (M_al v)), .ref (q 20), .ref (q 21), .ref (q 22), .ref (q 23), .int (M_shotAlarm (M_ex v)), .int (M_drawn (M_ex v))]), ((q 1), aI K 700 (M_tape (M_tp v))), ((q 2), aI K 20 (M_number (M_cd v))), ((q 3), aZ K 5 (M_isTold (M_rd v))), ((q 4), aI K 80 (M_codeSort (M_cd v))), ((q 5), aI K 80 (M_codeA (M_cd v))), ((q 6), aI K 80 (M_codeB (M_cd v))), ((q 7), aI K 80 (M_codeC (M_cd v))), ((q 8), aI K 80 (M_codeName (M_cd v))), ((q 9), aI K 80 (M_codePlace (M_cd v))), ((q 10), aI K 80 (M_codeTo (M_cd v))), ((q 11), aI K 280 (M_labelName (M_cd v))), ((q 12), aI K 280 (M_labelAt (M_cd v))), ((q 13), aI K 64 (M_data (M_cd v))), ((q 14), aZ K 32 (M_hasData (M_rd v))), ((q 15), aI K 314 (M_s (M_rn v))), ((q 16), aI K 314 (M_aside (M_ex v))), ((q 17), aI K 314 (M_further (M_ex v))), ((q 18), aI K 314 (M_image (M_im v))), ((q 19), aI K 3 (M_sizeNow (M_rn v))), ((q 20), aI K 8 (M_aloneRegister (M_al v))), ((q 21), aI K 4 (M_aloneReal (M_al v))), ((q 22), aI K 32 (M_aloneMemory (M_al v))), ((q 23), aI K 999 (M_aloneOutput (M_al v)))]) rfl ?_
  refine r_aload_n (pc := 0) cx dX10_leaves_0 0 rfl ?_
  refine r_iload_n (pc := 1) cx dX10_leaves_1 1 rfl ?_
  refine r_iload_n (pc := 2) cx dX10_leaves_2 2 rfl ?_
  obtain ⟨v1, hc2, hf⟩ := bd_of hf
  refine r_Vv (pc := 3) (ws' := [((q 0), ob 9 [.int (M_thrown v1), .ref (q 1), .int (M_taped (M_tp v1)), .ref (q 2), .ref (q 3), .ref (q 4), .ref (q 5), .ref (q 6), .ref (q 7), .ref (q 8), .ref (q 9), .ref (q 10), .ref (q 11), .ref (q 12), .ref (q 13), .ref (q 14), .int (M_lines (M_rd v1)), .int (M_size (M_rd v1)), .int (M_at (M_rd v1)), .int (M_place (M_rd v1)), .int (M_sort (M_rd v1)), .int (M_value (M_rd v1)), .int (M_fault (M_rd v1)), .int (M_faultPlace (M_rd v1)), .int (M_lastFault (M_lf v1)), .int (M_lastPlace (M_lf v1)), .ref (q 15), .ref (q 16), .ref (q 17), .ref (q 18), .int (M_hasImage (M_im v1)), .int (M_spanNow (M_rn v1)), .ref (q 19), .int (M_placeThen (M_rn v1)), .int (M_alonePlace (M_al v1)), .int (M_aloneSteps (M_al v1)), .int (M_aloneOut (M_al v1)), .ref (q 20), .ref (q 21), .ref (q 22), .ref (q 23), .int (M_shotAlarm (M_ex v1)), .int (M_drawn (M_ex v1))]), ((q 1), aI K 700 (M_tape (M_tp v1))), ((q 2), aI K 20 (M_number (M_cd v1))), ((q 3), aZ K 5 (M_isTold (M_rd v1))), ((q 4), aI K 80 (M_codeSort (M_cd v1))), ((q 5), aI K 80 (M_codeA (M_cd v1))), ((q 6), aI K 80 (M_codeB (M_cd v1))), ((q 7), aI K 80 (M_codeC (M_cd v1))), ((q 8), aI K 80 (M_codeName (M_cd v1))), ((q 9), aI K 80 (M_codePlace (M_cd v1))), ((q 10), aI K 80 (M_codeTo (M_cd v1))), ((q 11), aI K 280 (M_labelName (M_cd v1))), ((q 12), aI K 280 (M_labelAt (M_cd v1))), ((q 13), aI K 64 (M_data (M_cd v1))), ((q 14), aZ K 32 (M_hasData (M_rd v1))), ((q 15), aI K 314 (M_s (M_rn v1))), ((q 16), aI K 314 (M_aside (M_ex v1))), ((q 17), aI K 314 (M_further (M_ex v1))), ((q 18), aI K 314 (M_image (M_im v1))), ((q 19), aI K 3 (M_sizeNow (M_rn v1))), ((q 20), aI K 8 (M_aloneRegister (M_al v1))), ((q 21), aI K 4 (M_aloneReal (M_al v1))), ((q 22), aI K 32 (M_aloneMemory (M_al v1))), ((q 23), aI K 999 (M_aloneOutput (M_al v1)))]) cx [.int a1, .int a2] [] [0, 1, 2, 3, 4, 5, 6, 7, 8, 9, 10, 11, 12, 13, 14, 15, 16, 17, 18, 19, 20, 21, 22, 23] (m_M_journal l D K q v a1 a2 hc2) yv_X10_journal wd_1683 ⟨rfl, rfl⟩ (by decide) rfl rfl rfl (by decide) 0 rfl rfl rfl (Nat.le_of_ble_eq_true rfl) dX10_leaves_3 ?_
  refine r_iload_n (pc := 6) cx dX10_leaves_6 1 rfl ?_
  refine r_bipush (pc := 7) cx dX10_leaves_7 bp_32 ?_
  refine r_icmp_ge (pc := 9) (tgt := 36) cx dX10_leaves_9 (by decide) (fun h3 => ?_) (fun h3 => ?_)
  · have hf := ifp h3 hf
    refine r_aload_n (pc := 36) cx dX10_leaves_36 0 rfl ?_
    refine r_get (pc := 37) cx cf_X10 0 26 rfl (by decide) rfl wd_1342 dX10_leaves_37 ?_
    refine r_sipush (pc := 40) cx dX10_leaves_40 sp_178 ?_
    refine r_iald (pc := 43) cx 15 rfl (by decide) dX10_leaves_43 ?_
    refine r_bipush (pc := 44) cx dX10_leaves_44 bp_40 ?_
    obtain ⟨J5, eJ5, hf⟩ := nm_of hf
    have hJ5 : ∀ (f4 : (Nat → Int32)), J5 f4 = some o_v → WW p l e rm_M_leaves s m args below meth c D A 4 0 0 (MQ below (QV D K A (cl_M K q o_v)) args s 0 0 A) ([((q 0), ob 9 [.int (M_thrown v1), .ref (q 1), .int (M_taped (M_tp v1)), .ref (q 2), .ref (q 3), .ref (q 4), .ref (q 5), .ref (q 6), .ref (q 7), .ref (q 8), .ref (q 9), .ref (q 10), .ref (q 11), .ref (q 12), .ref (q 13), .ref (q 14), .int (M_lines (M_rd v1)), .int (M_size (M_rd v1)), .int (M_at (M_rd v1)), .int (M_place (M_rd v1)), .int (M_sort (M_rd v1)), .int (M_value (M_rd v1)), .int (M_fault (M_rd v1)), .int (M_faultPlace (M_rd v1)), .int (M_lastFault (M_lf v1)), .int (M_lastPlace (M_lf v1)), .ref (q 15), .ref (q 16), .ref (q 17), .ref (q 18), .int (M_hasImage (M_im v1)), .int (M_spanNow (M_rn v1)), .ref (q 19), .int (M_placeThen (M_rn v1)), .int (M_alonePlace (M_al v1)), .int (M_aloneSteps (M_al v1)), .int (M_aloneOut (M_al v1)), .ref (q 20), .ref (q 21), .ref (q 22), .ref (q 23), .int (M_shotAlarm (M_ex v1)), .int (M_drawn (M_ex v1))]), ((q 1), aI K 700 (M_tape (M_tp v1))), ((q 2), aI K 20 (M_number (M_cd v1))), ((q 3), aZ K 5 (M_isTold (M_rd v1))), ((q 4), aI K 80 (M_codeSort (M_cd v1))), ((q 5), aI K 80 (M_codeA (M_cd v1))), ((q 6), aI K 80 (M_codeB (M_cd v1))), ((q 7), aI K 80 (M_codeC (M_cd v1))), ((q 8), aI K 80 (M_codeName (M_cd v1))), ((q 9), aI K 80 (M_codePlace (M_cd v1))), ((q 10), aI K 80 (M_codeTo (M_cd v1))), ((q 11), aI K 280 (M_labelName (M_cd v1))), ((q 12), aI K 280 (M_labelAt (M_cd v1))), ((q 13), aI K 64 (M_data (M_cd v1))), ((q 14), aZ K 32 (M_hasData (M_rd v1))), ((q 15), aI K 314 f4), ((q 16), aI K 314 (M_aside (M_ex v1))), ((q 17), aI K 314 (M_further (M_ex v1))), ((q 18), aI K 314 (M_image (M_im v1))), ((q 19), aI K 3 (M_sizeNow (M_rn v1))), ((q 20), aI K 8 (M_aloneRegister (M_al v1))), ((q 21), aI K 4 (M_aloneReal (M_al v1))), ((q 22), aI K 32 (M_aloneMemory (M_al v1))), ((q 23), aI K 999 (M_aloneOutput (M_al v1)))]) ([(0, .ref (q 0)), (2, .int a2)]) ([]) 97 := by
      intro f4 hf
      rw [eJ5] at hf
      refine r_aload_n (pc := 97) cx dX10_leaves_97 0 rfl ?_
      refine r_get (pc := 98) cx cf_X10 0 26 rfl (by decide) rfl wd_1342 dX10_leaves_98 ?_
      refine r_sipush (pc := 101) cx dX10_leaves_101 sp_179 ?_
      refine r_aload_n (pc := 104) cx dX10_leaves_104 0 rfl ?_
      refine r_get (pc := 105) cx cf_X10 0 26 rfl (by decide) rfl wd_1342 dX10_leaves_105 ?_
      refine r_sipush (pc := 108) cx dX10_leaves_108 sp_178 ?_
      refine r_iald (pc := 111) cx 15 rfl (by decide) dX10_leaves_111 ?_
      refine r_iadd (pc := 112) cx dX10_leaves_112 ?_
      refine r_iload_n (pc := 113) cx dX10_leaves_113 1 rfl ?_
      obtain ⟨h6, hf⟩ := chk_of hf
      obtain ⟨f7, ef7, hf⟩ := nm_of hf
      refine r_iast (pc := 114) (ws' := [((q 0), ob 9 [.int (M_thrown v1), .ref (q 1), .int (M_taped (M_tp v1)), .ref (q 2), .ref (q 3), .ref (q 4), .ref (q 5), .ref (q 6), .ref (q 7), .ref (q 8), .ref (q 9), .ref (q 10), .ref (q 11), .ref (q 12), .ref (q 13), .ref (q 14), .int (M_lines (M_rd v1)), .int (M_size (M_rd v1)), .int (M_at (M_rd v1)), .int (M_place (M_rd v1)), .int (M_sort (M_rd v1)), .int (M_value (M_rd v1)), .int (M_fault (M_rd v1)), .int (M_faultPlace (M_rd v1)), .int (M_lastFault (M_lf v1)), .int (M_lastPlace (M_lf v1)), .ref (q 15), .ref (q 16), .ref (q 17), .ref (q 18), .int (M_hasImage (M_im v1)), .int (M_spanNow (M_rn v1)), .ref (q 19), .int (M_placeThen (M_rn v1)), .int (M_alonePlace (M_al v1)), .int (M_aloneSteps (M_al v1)), .int (M_aloneOut (M_al v1)), .ref (q 20), .ref (q 21), .ref (q 22), .ref (q 23), .int (M_shotAlarm (M_ex v1)), .int (M_drawn (M_ex v1))]), ((q 1), aI K 700 (M_tape (M_tp v1))), ((q 2), aI K 20 (M_number (M_cd v1))), ((q 3), aZ K 5 (M_isTold (M_rd v1))), ((q 4), aI K 80 (M_codeSort (M_cd v1))), ((q 5), aI K 80 (M_codeA (M_cd v1))), ((q 6), aI K 80 (M_codeB (M_cd v1))), ((q 7), aI K 80 (M_codeC (M_cd v1))), ((q 8), aI K 80 (M_codeName (M_cd v1))), ((q 9), aI K 80 (M_codePlace (M_cd v1))), ((q 10), aI K 80 (M_codeTo (M_cd v1))), ((q 11), aI K 280 (M_labelName (M_cd v1))), ((q 12), aI K 280 (M_labelAt (M_cd v1))), ((q 13), aI K 64 (M_data (M_cd v1))), ((q 14), aZ K 32 (M_hasData (M_rd v1))), ((q 15), aI K 314 f7), ((q 16), aI K 314 (M_aside (M_ex v1))), ((q 17), aI K 314 (M_further (M_ex v1))), ((q 18), aI K 314 (M_image (M_im v1))), ((q 19), aI K 3 (M_sizeNow (M_rn v1))), ((q 20), aI K 8 (M_aloneRegister (M_al v1))), ((q 21), aI K 4 (M_aloneReal (M_al v1))), ((q 22), aI K 32 (M_aloneMemory (M_al v1))), ((q 23), aI K 999 (M_aloneOutput (M_al v1)))]) cx 15 rfl h6 dX10_leaves_114 ef7 rfl ?_
      refine r_aload_n (pc := 115) cx dX10_leaves_115 0 rfl ?_
      refine r_get (pc := 116) cx cf_X10 0 26 rfl (by decide) rfl wd_1342 dX10_leaves_116 ?_
      refine r_sipush (pc := 119) cx dX10_leaves_119 sp_178 ?_
      refine r_dup2 (pc := 122) cx dX10_leaves_122 rfl rfl ?_
      refine r_iald (pc := 123) cx 15 rfl (by decide) dX10_leaves_123 ?_
      refine r_iconst (pc := 124) cx dX10_leaves_124 ic_1 ?_
      refine r_iadd (pc := 125) cx dX10_leaves_125 ?_
      obtain ⟨x8, ex8, hf⟩ := nm_of hf
      refine r_nm ex8 ?_
      obtain ⟨f9, ef9, hf⟩ := nm_of hf
      refine r_iast (pc := 126) (ws' := [((q 0), ob 9 [.int (M_thrown v1), .ref (q 1), .int (M_taped (M_tp v1)), .ref (q 2), .ref (q 3), .ref (q 4), .ref (q 5), .ref (q 6), .ref (q 7), .ref (q 8), .ref (q 9), .ref (q 10), .ref (q 11), .ref (q 12), .ref (q 13), .ref (q 14), .int (M_lines (M_rd v1)), .int (M_size (M_rd v1)), .int (M_at (M_rd v1)), .int (M_place (M_rd v1)), .int (M_sort (M_rd v1)), .int (M_value (M_rd v1)), .int (M_fault (M_rd v1)), .int (M_faultPlace (M_rd v1)), .int (M_lastFault (M_lf v1)), .int (M_lastPlace (M_lf v1)), .ref (q 15), .ref (q 16), .ref (q 17), .ref (q 18), .int (M_hasImage (M_im v1)), .int (M_spanNow (M_rn v1)), .ref (q 19), .int (M_placeThen (M_rn v1)), .int (M_alonePlace (M_al v1)), .int (M_aloneSteps (M_al v1)), .int (M_aloneOut (M_al v1)), .ref (q 20), .ref (q 21), .ref (q 22), .ref (q 23), .int (M_shotAlarm (M_ex v1)), .int (M_drawn (M_ex v1))]), ((q 1), aI K 700 (M_tape (M_tp v1))), ((q 2), aI K 20 (M_number (M_cd v1))), ((q 3), aZ K 5 (M_isTold (M_rd v1))), ((q 4), aI K 80 (M_codeSort (M_cd v1))), ((q 5), aI K 80 (M_codeA (M_cd v1))), ((q 6), aI K 80 (M_codeB (M_cd v1))), ((q 7), aI K 80 (M_codeC (M_cd v1))), ((q 8), aI K 80 (M_codeName (M_cd v1))), ((q 9), aI K 80 (M_codePlace (M_cd v1))), ((q 10), aI K 80 (M_codeTo (M_cd v1))), ((q 11), aI K 280 (M_labelName (M_cd v1))), ((q 12), aI K 280 (M_labelAt (M_cd v1))), ((q 13), aI K 64 (M_data (M_cd v1))), ((q 14), aZ K 32 (M_hasData (M_rd v1))), ((q 15), aI K 314 f9), ((q 16), aI K 314 (M_aside (M_ex v1))), ((q 17), aI K 314 (M_further (M_ex v1))), ((q 18), aI K 314 (M_image (M_im v1))), ((q 19), aI K 3 (M_sizeNow (M_rn v1))), ((q 20), aI K 8 (M_aloneRegister (M_al v1))), ((q 21), aI K 4 (M_aloneReal (M_al v1))), ((q 22), aI K 32 (M_aloneMemory (M_al v1))), ((q 23), aI K 999 (M_aloneOutput (M_al v1)))]) cx 15 rfl (by decide) dX10_leaves_126 ef9 rfl ?_
      refine r_aload_n (pc := 127) cx dX10_leaves_127 0 rfl ?_
      refine r_get (pc := 128) cx cf_X10 0 26 rfl (by decide) rfl wd_1342 dX10_leaves_128 ?_
      refine r_sipush (pc := 131) cx dX10_leaves_131 sp_225 ?_
      refine r_dup2 (pc := 134) cx dX10_leaves_134 rfl rfl ?_
      refine r_iald (pc := 135) cx 15 rfl (by decide) dX10_leaves_135 ?_
      refine r_iconst (pc := 136) cx dX10_leaves_136 ic_1 ?_
      refine r_iadd (pc := 137) cx dX10_leaves_137 ?_
      obtain ⟨x10, ex10, hf⟩ := nm_of hf
      refine r_nm ex10 ?_
      obtain ⟨f11, ef11, hf⟩ := nm_of hf
      refine r_iast (pc := 138) (ws' := [((q 0), ob 9 [.int (M_thrown v1), .ref (q 1), .int (M_taped (M_tp v1)), .ref (q 2), .ref (q 3), .ref (q 4), .ref (q 5), .ref (q 6), .ref (q 7), .ref (q 8), .ref (q 9), .ref (q 10), .ref (q 11), .ref (q 12), .ref (q 13), .ref (q 14), .int (M_lines (M_rd v1)), .int (M_size (M_rd v1)), .int (M_at (M_rd v1)), .int (M_place (M_rd v1)), .int (M_sort (M_rd v1)), .int (M_value (M_rd v1)), .int (M_fault (M_rd v1)), .int (M_faultPlace (M_rd v1)), .int (M_lastFault (M_lf v1)), .int (M_lastPlace (M_lf v1)), .ref (q 15), .ref (q 16), .ref (q 17), .ref (q 18), .int (M_hasImage (M_im v1)), .int (M_spanNow (M_rn v1)), .ref (q 19), .int (M_placeThen (M_rn v1)), .int (M_alonePlace (M_al v1)), .int (M_aloneSteps (M_al v1)), .int (M_aloneOut (M_al v1)), .ref (q 20), .ref (q 21), .ref (q 22), .ref (q 23), .int (M_shotAlarm (M_ex v1)), .int (M_drawn (M_ex v1))]), ((q 1), aI K 700 (M_tape (M_tp v1))), ((q 2), aI K 20 (M_number (M_cd v1))), ((q 3), aZ K 5 (M_isTold (M_rd v1))), ((q 4), aI K 80 (M_codeSort (M_cd v1))), ((q 5), aI K 80 (M_codeA (M_cd v1))), ((q 6), aI K 80 (M_codeB (M_cd v1))), ((q 7), aI K 80 (M_codeC (M_cd v1))), ((q 8), aI K 80 (M_codeName (M_cd v1))), ((q 9), aI K 80 (M_codePlace (M_cd v1))), ((q 10), aI K 80 (M_codeTo (M_cd v1))), ((q 11), aI K 280 (M_labelName (M_cd v1))), ((q 12), aI K 280 (M_labelAt (M_cd v1))), ((q 13), aI K 64 (M_data (M_cd v1))), ((q 14), aZ K 32 (M_hasData (M_rd v1))), ((q 15), aI K 314 f11), ((q 16), aI K 314 (M_aside (M_ex v1))), ((q 17), aI K 314 (M_further (M_ex v1))), ((q 18), aI K 314 (M_image (M_im v1))), ((q 19), aI K 3 (M_sizeNow (M_rn v1))), ((q 20), aI K 8 (M_aloneRegister (M_al v1))), ((q 21), aI K 4 (M_aloneReal (M_al v1))), ((q 22), aI K 32 (M_aloneMemory (M_al v1))), ((q 23), aI K 999 (M_aloneOutput (M_al v1)))]) cx 15 rfl (by decide) dX10_leaves_138 ef11 rfl ?_
      cases hf
      exact r_vret (pc := 139) cx rfl dX10_leaves_139
    refine r_icmp_ne (pc := 46) (tgt := 97) cx dX10_leaves_46 (by decide) (fun h12 => ?_) (fun h12 => ?_)
    · have hf := ifn h12 hf
      refine r_loc (loc' := [(0, .ref (q 0)), (2, .int a2)]) [0, 2] rfl ?_
      exact hJ5 _ hf
    · have hf := ifp h12 hf
      refine r_iconst (pc := 49) cx dX10_leaves_49 ic_1 ?_
      refine r_istore_n (pc := 50) (loc' := [(3, .int (1 : Int32)), (0, .ref (q 0)), (1, .int a1), (2, .int a2)]) cx dX10_leaves_50 rfl (by decide) rfl ?_
      have hL51 : ∀ (k51_85 : (Nat → Int32) → Option (T_M)), (∀ (f15 : (Nat → Int32)), k51_85 f15 = some o_v → WW p l e rm_M_leaves s m args below meth c D A 4 0 0 (MQ below (QV D K A (cl_M K q o_v)) args s 0 0 A) ([((q 0), ob 9 [.int (M_thrown v1), .ref (q 1), .int (M_taped (M_tp v1)), .ref (q 2), .ref (q 3), .ref (q 4), .ref (q 5), .ref (q 6), .ref (q 7), .ref (q 8), .ref (q 9), .ref (q 10), .ref (q 11), .ref (q 12), .ref (q 13), .ref (q 14), .int (M_lines (M_rd v1)), .int (M_size (M_rd v1)), .int (M_at (M_rd v1)), .int (M_place (M_rd v1)), .int (M_sort (M_rd v1)), .int (M_value (M_rd v1)), .int (M_fault (M_rd v1)), .int (M_faultPlace (M_rd v1)), .int (M_lastFault (M_lf v1)), .int (M_lastPlace (M_lf v1)), .ref (q 15), .ref (q 16), .ref (q 17), .ref (q 18), .int (M_hasImage (M_im v1)), .int (M_spanNow (M_rn v1)), .ref (q 19), .int (M_placeThen (M_rn v1)), .int (M_alonePlace (M_al v1)), .int (M_aloneSteps (M_al v1)), .int (M_aloneOut (M_al v1)), .ref (q 20), .ref (q 21), .ref (q 22), .ref (q 23), .int (M_shotAlarm (M_ex v1)), .int (M_drawn (M_ex v1))]), ((q 1), aI K 700 (M_tape (M_tp v1))), ((q 2), aI K 20 (M_number (M_cd v1))), ((q 3), aZ K 5 (M_isTold (M_rd v1))), ((q 4), aI K 80 (M_codeSort (M_cd v1))), ((q 5), aI K 80 (M_codeA (M_cd v1))), ((q 6), aI K 80 (M_codeB (M_cd v1))), ((q 7), aI K 80 (M_codeC (M_cd v1))), ((q 8), aI K 80 (M_codeName (M_cd v1))), ((q 9), aI K 80 (M_codePlace (M_cd v1))), ((q 10), aI K 80 (M_codeTo (M_cd v1))), ((q 11), aI K 280 (M_labelName (M_cd v1))), ((q 12), aI K 280 (M_labelAt (M_cd v1))), ((q 13), aI K 64 (M_data (M_cd v1))), ((q 14), aZ K 32 (M_hasData (M_rd v1))), ((q 15), aI K 314 f15), ((q 16), aI K 314 (M_aside (M_ex v1))), ((q 17), aI K 314 (M_further (M_ex v1))), ((q 18), aI K 314 (M_image (M_im v1))), ((q 19), aI K 3 (M_sizeNow (M_rn v1))), ((q 20), aI K 8 (M_aloneRegister (M_al v1))), ((q 21), aI K 4 (M_aloneReal (M_al v1))), ((q 22), aI K 32 (M_aloneMemory (M_al v1))), ((q 23), aI K 999 (M_aloneOutput (M_al v1)))]) ([(0, .ref (q 0)), (2, .int a2)]) ([]) 85) → ∀ (n51 : Nat) (x13 : Int32) (f14 : (Nat → Int32)), f_M_leaves_L51 k51_85 n51 x13 f14 = some o_v → WW p l e rm_M_leaves s m args below meth c D A 4 0 0 (MQ below (QV D K A (cl_M K q o_v)) args s 0 0 A) ([((q 0), ob 9 [.int (M_thrown v1), .ref (q 1), .int (M_taped (M_tp v1)), .ref (q 2), .ref (q 3), .ref (q 4), .ref (q 5), .ref (q 6), .ref (q 7), .ref (q 8), .ref (q 9), .ref (q 10), .ref (q 11), .ref (q 12), .ref (q 13), .ref (q 14), .int (M_lines (M_rd v1)), .int (M_size (M_rd v1)), .int (M_at (M_rd v1)), .int (M_place (M_rd v1)), .int (M_sort (M_rd v1)), .int (M_value (M_rd v1)), .int (M_fault (M_rd v1)), .int (M_faultPlace (M_rd v1)), .int (M_lastFault (M_lf v1)), .int (M_lastPlace (M_lf v1)), .ref (q 15), .ref (q 16), .ref (q 17), .ref (q 18), .int (M_hasImage (M_im v1)), .int (M_spanNow (M_rn v1)), .ref (q 19), .int (M_placeThen (M_rn v1)), .int (M_alonePlace (M_al v1)), .int (M_aloneSteps (M_al v1)), .int (M_aloneOut (M_al v1)), .ref (q 20), .ref (q 21), .ref (q 22), .ref (q 23), .int (M_shotAlarm (M_ex v1)), .int (M_drawn (M_ex v1))]), ((q 1), aI K 700 (M_tape (M_tp v1))), ((q 2), aI K 20 (M_number (M_cd v1))), ((q 3), aZ K 5 (M_isTold (M_rd v1))), ((q 4), aI K 80 (M_codeSort (M_cd v1))), ((q 5), aI K 80 (M_codeA (M_cd v1))), ((q 6), aI K 80 (M_codeB (M_cd v1))), ((q 7), aI K 80 (M_codeC (M_cd v1))), ((q 8), aI K 80 (M_codeName (M_cd v1))), ((q 9), aI K 80 (M_codePlace (M_cd v1))), ((q 10), aI K 80 (M_codeTo (M_cd v1))), ((q 11), aI K 280 (M_labelName (M_cd v1))), ((q 12), aI K 280 (M_labelAt (M_cd v1))), ((q 13), aI K 64 (M_data (M_cd v1))), ((q 14), aZ K 32 (M_hasData (M_rd v1))), ((q 15), aI K 314 f14), ((q 16), aI K 314 (M_aside (M_ex v1))), ((q 17), aI K 314 (M_further (M_ex v1))), ((q 18), aI K 314 (M_image (M_im v1))), ((q 19), aI K 3 (M_sizeNow (M_rn v1))), ((q 20), aI K 8 (M_aloneRegister (M_al v1))), ((q 21), aI K 4 (M_aloneReal (M_al v1))), ((q 22), aI K 32 (M_aloneMemory (M_al v1))), ((q 23), aI K 999 (M_aloneOutput (M_al v1)))]) ([(0, .ref (q 0)), (2, .int a2), (3, .int x13)]) ([]) 51 := by
        intro k51_85 hk51_85 n51
        induction n51 with
        | zero => intro x13 f14 hf; exact (nomatch (show (none : Option (T_M)) = some _ from hf))
        | succ n51 ih51 =>
          intro x13 f14 hf
          rw [f_M_leaves_L51] at hf
          refine r_iload_n (pc := 51) cx dX10_leaves_51 2 rfl ?_
          refine r_bipush (pc := 52) cx dX10_leaves_52 bp_40 ?_
          refine r_icmp_ge (pc := 54) (tgt := 85) cx dX10_leaves_54 (by decide) (fun h16 => ?_) (fun h16 => ?_)
          · have hf := ifp h16 hf
            refine r_loc (loc' := [(0, .ref (q 0)), (2, .int a2)]) [0, 1] rfl ?_
            exact hk51_85 _ hf
          · have hf := ifn h16 hf
            refine r_aload_n (pc := 57) cx dX10_leaves_57 0 rfl ?_
            refine r_get (pc := 58) cx cf_X10 0 26 rfl (by decide) rfl wd_1342 dX10_leaves_58 ?_
            refine r_sipush (pc := 61) cx dX10_leaves_61 sp_179 ?_
            refine r_iload_n (pc := 64) cx dX10_leaves_64 2 rfl ?_
            refine r_iadd (pc := 65) cx dX10_leaves_65 ?_
            refine r_iconst (pc := 66) cx dX10_leaves_66 ic_1 ?_
            refine r_isub (pc := 67) cx dX10_leaves_67 ?_
            refine r_aload_n (pc := 68) cx dX10_leaves_68 0 rfl ?_
            refine r_get (pc := 69) cx cf_X10 0 26 rfl (by decide) rfl wd_1342 dX10_leaves_69 ?_
            refine r_sipush (pc := 72) cx dX10_leaves_72 sp_179 ?_
            refine r_iload_n (pc := 75) cx dX10_leaves_75 2 rfl ?_
            refine r_iadd (pc := 76) cx dX10_leaves_76 ?_
            obtain ⟨h17, hf⟩ := chk_of hf
            refine r_iald (pc := 77) cx 15 rfl h17 dX10_leaves_77 ?_
            obtain ⟨x18, ex18, hf⟩ := nm_of hf
            refine r_nm ex18 ?_
            obtain ⟨h19, hf⟩ := chk_of hf
            obtain ⟨f20, ef20, hf⟩ := nm_of hf
            refine r_iast (pc := 78) (ws' := [((q 0), ob 9 [.int (M_thrown v1), .ref (q 1), .int (M_taped (M_tp v1)), .ref (q 2), .ref (q 3), .ref (q 4), .ref (q 5), .ref (q 6), .ref (q 7), .ref (q 8), .ref (q 9), .ref (q 10), .ref (q 11), .ref (q 12), .ref (q 13), .ref (q 14), .int (M_lines (M_rd v1)), .int (M_size (M_rd v1)), .int (M_at (M_rd v1)), .int (M_place (M_rd v1)), .int (M_sort (M_rd v1)), .int (M_value (M_rd v1)), .int (M_fault (M_rd v1)), .int (M_faultPlace (M_rd v1)), .int (M_lastFault (M_lf v1)), .int (M_lastPlace (M_lf v1)), .ref (q 15), .ref (q 16), .ref (q 17), .ref (q 18), .int (M_hasImage (M_im v1)), .int (M_spanNow (M_rn v1)), .ref (q 19), .int (M_placeThen (M_rn v1)), .int (M_alonePlace (M_al v1)), .int (M_aloneSteps (M_al v1)), .int (M_aloneOut (M_al v1)), .ref (q 20), .ref (q 21), .ref (q 22), .ref (q 23), .int (M_shotAlarm (M_ex v1)), .int (M_drawn (M_ex v1))]), ((q 1), aI K 700 (M_tape (M_tp v1))), ((q 2), aI K 20 (M_number (M_cd v1))), ((q 3), aZ K 5 (M_isTold (M_rd v1))), ((q 4), aI K 80 (M_codeSort (M_cd v1))), ((q 5), aI K 80 (M_codeA (M_cd v1))), ((q 6), aI K 80 (M_codeB (M_cd v1))), ((q 7), aI K 80 (M_codeC (M_cd v1))), ((q 8), aI K 80 (M_codeName (M_cd v1))), ((q 9), aI K 80 (M_codePlace (M_cd v1))), ((q 10), aI K 80 (M_codeTo (M_cd v1))), ((q 11), aI K 280 (M_labelName (M_cd v1))), ((q 12), aI K 280 (M_labelAt (M_cd v1))), ((q 13), aI K 64 (M_data (M_cd v1))), ((q 14), aZ K 32 (M_hasData (M_rd v1))), ((q 15), aI K 314 f20), ((q 16), aI K 314 (M_aside (M_ex v1))), ((q 17), aI K 314 (M_further (M_ex v1))), ((q 18), aI K 314 (M_image (M_im v1))), ((q 19), aI K 3 (M_sizeNow (M_rn v1))), ((q 20), aI K 8 (M_aloneRegister (M_al v1))), ((q 21), aI K 4 (M_aloneReal (M_al v1))), ((q 22), aI K 32 (M_aloneMemory (M_al v1))), ((q 23), aI K 999 (M_aloneOutput (M_al v1)))]) cx 15 rfl h19 dX10_leaves_78 ef20 rfl ?_
            obtain ⟨x21, ex21, hf⟩ := nm_of hf
            refine r_iinc (pc := 79) (loc' := [(3, .int x21), (0, .ref (q 0)), (2, .int a2)]) (v := x21) cx dX10_leaves_79 2 rfl ((congrArg (fun z => x13 + z) ic_1).trans ex21.symm) (by decide) rfl ?_
            refine r_goto (pc := 82) (tgt := 51) cx dX10_leaves_82 (by decide) ?_
            refine r_loc (loc' := [(0, .ref (q 0)), (2, .int a2), (3, .int x21)]) [1, 2, 0] rfl ?_
            exact ih51 _ _ hf
      refine r_loc (loc' := [(0, .ref (q 0)), (2, .int a2), (3, .int (1 : Int32))]) [1, 3, 0] rfl ?_
      refine hL51 _ (fun f15 hf => ?_) _ _ _ hf
      refine r_aload_n (pc := 85) cx dX10_leaves_85 0 rfl ?_
      refine r_get (pc := 86) cx cf_X10 0 26 rfl (by decide) rfl wd_1342 dX10_leaves_86 ?_
      refine r_sipush (pc := 89) cx dX10_leaves_89 sp_178 ?_
      refine r_dup2 (pc := 92) cx dX10_leaves_92 rfl rfl ?_
      refine r_iald (pc := 93) cx 15 rfl (by decide) dX10_leaves_93 ?_
      refine r_iconst (pc := 94) cx dX10_leaves_94 ic_1 ?_
      refine r_isub (pc := 95) cx dX10_leaves_95 ?_
      obtain ⟨x22, ex22, hf⟩ := nm_of hf
      refine r_nm ex22 ?_
      obtain ⟨f23, ef23, hf⟩ := nm_of hf
      refine r_iast (pc := 96) (ws' := [((q 0), ob 9 [.int (M_thrown v1), .ref (q 1), .int (M_taped (M_tp v1)), .ref (q 2), .ref (q 3), .ref (q 4), .ref (q 5), .ref (q 6), .ref (q 7), .ref (q 8), .ref (q 9), .ref (q 10), .ref (q 11), .ref (q 12), .ref (q 13), .ref (q 14), .int (M_lines (M_rd v1)), .int (M_size (M_rd v1)), .int (M_at (M_rd v1)), .int (M_place (M_rd v1)), .int (M_sort (M_rd v1)), .int (M_value (M_rd v1)), .int (M_fault (M_rd v1)), .int (M_faultPlace (M_rd v1)), .int (M_lastFault (M_lf v1)), .int (M_lastPlace (M_lf v1)), .ref (q 15), .ref (q 16), .ref (q 17), .ref (q 18), .int (M_hasImage (M_im v1)), .int (M_spanNow (M_rn v1)), .ref (q 19), .int (M_placeThen (M_rn v1)), .int (M_alonePlace (M_al v1)), .int (M_aloneSteps (M_al v1)), .int (M_aloneOut (M_al v1)), .ref (q 20), .ref (q 21), .ref (q 22), .ref (q 23), .int (M_shotAlarm (M_ex v1)), .int (M_drawn (M_ex v1))]), ((q 1), aI K 700 (M_tape (M_tp v1))), ((q 2), aI K 20 (M_number (M_cd v1))), ((q 3), aZ K 5 (M_isTold (M_rd v1))), ((q 4), aI K 80 (M_codeSort (M_cd v1))), ((q 5), aI K 80 (M_codeA (M_cd v1))), ((q 6), aI K 80 (M_codeB (M_cd v1))), ((q 7), aI K 80 (M_codeC (M_cd v1))), ((q 8), aI K 80 (M_codeName (M_cd v1))), ((q 9), aI K 80 (M_codePlace (M_cd v1))), ((q 10), aI K 80 (M_codeTo (M_cd v1))), ((q 11), aI K 280 (M_labelName (M_cd v1))), ((q 12), aI K 280 (M_labelAt (M_cd v1))), ((q 13), aI K 64 (M_data (M_cd v1))), ((q 14), aZ K 32 (M_hasData (M_rd v1))), ((q 15), aI K 314 f23), ((q 16), aI K 314 (M_aside (M_ex v1))), ((q 17), aI K 314 (M_further (M_ex v1))), ((q 18), aI K 314 (M_image (M_im v1))), ((q 19), aI K 3 (M_sizeNow (M_rn v1))), ((q 20), aI K 8 (M_aloneRegister (M_al v1))), ((q 21), aI K 4 (M_aloneReal (M_al v1))), ((q 22), aI K 32 (M_aloneMemory (M_al v1))), ((q 23), aI K 999 (M_aloneOutput (M_al v1)))]) cx 15 rfl (by decide) dX10_leaves_96 ef23 rfl ?_
      exact hJ5 _ hf
  · have hf := ifn h3 hf
    refine r_aload_n (pc := 12) cx dX10_leaves_12 0 rfl ?_
    refine r_get (pc := 13) cx cf_X10 0 26 rfl (by decide) rfl wd_1342 dX10_leaves_13 ?_
    refine r_sipush (pc := 16) cx dX10_leaves_16 sp_146 ?_
    refine r_iload_n (pc := 19) cx dX10_leaves_19 1 rfl ?_
    refine r_iadd (pc := 20) cx dX10_leaves_20 ?_
    refine r_iload_n (pc := 21) cx dX10_leaves_21 2 rfl ?_
    obtain ⟨h24, hf⟩ := chk_of hf
    obtain ⟨f25, ef25, hf⟩ := nm_of hf
    refine r_iast (pc := 22) (ws' := [((q 0), ob 9 [.int (M_thrown v1), .ref (q 1), .int (M_taped (M_tp v1)), .ref (q 2), .ref (q 3), .ref (q 4), .ref (q 5), .ref (q 6), .ref (q 7), .ref (q 8), .ref (q 9), .ref (q 10), .ref (q 11), .ref (q 12), .ref (q 13), .ref (q 14), .int (M_lines (M_rd v1)), .int (M_size (M_rd v1)), .int (M_at (M_rd v1)), .int (M_place (M_rd v1)), .int (M_sort (M_rd v1)), .int (M_value (M_rd v1)), .int (M_fault (M_rd v1)), .int (M_faultPlace (M_rd v1)), .int (M_lastFault (M_lf v1)), .int (M_lastPlace (M_lf v1)), .ref (q 15), .ref (q 16), .ref (q 17), .ref (q 18), .int (M_hasImage (M_im v1)), .int (M_spanNow (M_rn v1)), .ref (q 19), .int (M_placeThen (M_rn v1)), .int (M_alonePlace (M_al v1)), .int (M_aloneSteps (M_al v1)), .int (M_aloneOut (M_al v1)), .ref (q 20), .ref (q 21), .ref (q 22), .ref (q 23), .int (M_shotAlarm (M_ex v1)), .int (M_drawn (M_ex v1))]), ((q 1), aI K 700 (M_tape (M_tp v1))), ((q 2), aI K 20 (M_number (M_cd v1))), ((q 3), aZ K 5 (M_isTold (M_rd v1))), ((q 4), aI K 80 (M_codeSort (M_cd v1))), ((q 5), aI K 80 (M_codeA (M_cd v1))), ((q 6), aI K 80 (M_codeB (M_cd v1))), ((q 7), aI K 80 (M_codeC (M_cd v1))), ((q 8), aI K 80 (M_codeName (M_cd v1))), ((q 9), aI K 80 (M_codePlace (M_cd v1))), ((q 10), aI K 80 (M_codeTo (M_cd v1))), ((q 11), aI K 280 (M_labelName (M_cd v1))), ((q 12), aI K 280 (M_labelAt (M_cd v1))), ((q 13), aI K 64 (M_data (M_cd v1))), ((q 14), aZ K 32 (M_hasData (M_rd v1))), ((q 15), aI K 314 f25), ((q 16), aI K 314 (M_aside (M_ex v1))), ((q 17), aI K 314 (M_further (M_ex v1))), ((q 18), aI K 314 (M_image (M_im v1))), ((q 19), aI K 3 (M_sizeNow (M_rn v1))), ((q 20), aI K 8 (M_aloneRegister (M_al v1))), ((q 21), aI K 4 (M_aloneReal (M_al v1))), ((q 22), aI K 32 (M_aloneMemory (M_al v1))), ((q 23), aI K 999 (M_aloneOutput (M_al v1)))]) cx 15 rfl h24 dX10_leaves_22 ef25 rfl ?_
    refine r_aload_n (pc := 23) cx dX10_leaves_23 0 rfl ?_
    refine r_get (pc := 24) cx cf_X10 0 26 rfl (by decide) rfl wd_1342 dX10_leaves_24 ?_
    refine r_sipush (pc := 27) cx dX10_leaves_27 sp_224 ?_
    refine r_dup2 (pc := 30) cx dX10_leaves_30 rfl rfl ?_
    refine r_iald (pc := 31) cx 15 rfl (by decide) dX10_leaves_31 ?_
    refine r_iconst (pc := 32) cx dX10_leaves_32 ic_1 ?_
    refine r_iadd (pc := 33) cx dX10_leaves_33 ?_
    obtain ⟨x26, ex26, hf⟩ := nm_of hf
    refine r_nm ex26 ?_
    obtain ⟨f27, ef27, hf⟩ := nm_of hf
    refine r_iast (pc := 34) (ws' := [((q 0), ob 9 [.int (M_thrown v1), .ref (q 1), .int (M_taped (M_tp v1)), .ref (q 2), .ref (q 3), .ref (q 4), .ref (q 5), .ref (q 6), .ref (q 7), .ref (q 8), .ref (q 9), .ref (q 10), .ref (q 11), .ref (q 12), .ref (q 13), .ref (q 14), .int (M_lines (M_rd v1)), .int (M_size (M_rd v1)), .int (M_at (M_rd v1)), .int (M_place (M_rd v1)), .int (M_sort (M_rd v1)), .int (M_value (M_rd v1)), .int (M_fault (M_rd v1)), .int (M_faultPlace (M_rd v1)), .int (M_lastFault (M_lf v1)), .int (M_lastPlace (M_lf v1)), .ref (q 15), .ref (q 16), .ref (q 17), .ref (q 18), .int (M_hasImage (M_im v1)), .int (M_spanNow (M_rn v1)), .ref (q 19), .int (M_placeThen (M_rn v1)), .int (M_alonePlace (M_al v1)), .int (M_aloneSteps (M_al v1)), .int (M_aloneOut (M_al v1)), .ref (q 20), .ref (q 21), .ref (q 22), .ref (q 23), .int (M_shotAlarm (M_ex v1)), .int (M_drawn (M_ex v1))]), ((q 1), aI K 700 (M_tape (M_tp v1))), ((q 2), aI K 20 (M_number (M_cd v1))), ((q 3), aZ K 5 (M_isTold (M_rd v1))), ((q 4), aI K 80 (M_codeSort (M_cd v1))), ((q 5), aI K 80 (M_codeA (M_cd v1))), ((q 6), aI K 80 (M_codeB (M_cd v1))), ((q 7), aI K 80 (M_codeC (M_cd v1))), ((q 8), aI K 80 (M_codeName (M_cd v1))), ((q 9), aI K 80 (M_codePlace (M_cd v1))), ((q 10), aI K 80 (M_codeTo (M_cd v1))), ((q 11), aI K 280 (M_labelName (M_cd v1))), ((q 12), aI K 280 (M_labelAt (M_cd v1))), ((q 13), aI K 64 (M_data (M_cd v1))), ((q 14), aZ K 32 (M_hasData (M_rd v1))), ((q 15), aI K 314 f27), ((q 16), aI K 314 (M_aside (M_ex v1))), ((q 17), aI K 314 (M_further (M_ex v1))), ((q 18), aI K 314 (M_image (M_im v1))), ((q 19), aI K 3 (M_sizeNow (M_rn v1))), ((q 20), aI K 8 (M_aloneRegister (M_al v1))), ((q 21), aI K 4 (M_aloneReal (M_al v1))), ((q 22), aI K 32 (M_aloneMemory (M_al v1))), ((q 23), aI K 999 (M_aloneOutput (M_al v1)))]) cx 15 rfl (by decide) dX10_leaves_34 ef27 rfl ?_
    cases hf
    exact r_vret (pc := 35) cx rfl dX10_leaves_35
theorem yv_X10_leaves : YV yX10_leaves cX10_leaves 4 (none) 2 := ⟨⟨by decide +kernel, by decide +kernel, by decide +kernel⟩, wd_1682, wd_102, wd_1681, wd_70⟩
def f_M_empties (v : T_M) : Option (T_M) :=
  (nm (upd (M_s (M_rn v)) (86 : Int32).toNatClampNeg (0 : Int32)) fun (f1 : Nat → Int32) => (nm (upd f1 (103 : Int32).toNatClampNeg (0 : Int32)) fun (f2 : Nat → Int32) => (nm (upd f2 (112 : Int32).toNatClampNeg (0 : Int32)) fun (f3 : Nat → Int32) => (nm (upd f3 (113 : Int32).toNatClampNeg (0 : Int32)) fun (f4 : Nat → Int32) => (some ((M_tp v), (M_rd v), (M_lf v), (M_cd v), (f4, (M_spanNow (M_rn v)), (M_sizeNow (M_rn v)), (M_placeThen (M_rn v))), (M_ex v), (M_im v), (M_al v), (M_thrown v)))))))
abbrev rm_M_empties : Room := { frames := 0, cells := 0, slots := 0, locals := 0 }
set_option maxRecDepth 100000 in
set_option maxHeartbeats 4000000 in
theorem m_M_empties (l : Launch) (D : va_G) (K : Nat → ClassId) (q : Nat → Nat) (v : T_M) {o_v : T_M} (hf : f_M_empties v = some o_v) : MV l yX10_empties cX10_empties 1 (none) rm_M_empties D K [.ref (q 0)] (cl_M K q v) (cl_M K q o_v) := by
  refine MV_of (loc0 := [(0, .ref (q 0))]) (by decide +kernel) rfl (Nat.le_of_ble_eq_true rfl) ?_
  intro p e s m args below meth c A cx
  unfold f_M_empties at hf
  refine r_ws (ws' := [((q 0), ob 9 [.int (M_thrown v), .ref (q 1), .int (M_taped (M_tp v)), .ref (q 2), .ref (q 3), .ref (q 4), .ref (q 5), .ref (q 6), .ref (q 7), .ref (q 8), .ref (q 9), .ref (q 10), .ref (q 11), .ref (q 12), .ref (q 13), .ref (q 14), .int (M_lines (M_rd v)), .int (M_size (M_rd v)), .int (M_at (M_rd v)), .int (M_place (M_rd v)), .int (M_sort (M_rd v)), .int (M_value (M_rd v)), .int (M_fault (M_rd v)), .int (M_faultPlace (M_rd v)), .int (M_lastFault (M_lf v)), .int (M_lastPlace (M_lf v)), .ref (q 15), .ref (q 16), .ref (q 17), .ref (q 18), .int (M_hasImage (M_im v)), .int (M_spanNow (M_rn v)), .ref (q 19), .int (M_placeThen (M_rn v)), .int (M_alonePlace (M_al v)), .int (M_aloneSteps (M_al v)), .int (M_aloneOut (M_al v)), .ref (q 20), .ref (q 21), .ref (q 22), .ref (q 23), .int (M_shotAlarm (M_ex v)), .int (M_drawn (M_ex v))]), ((q 1), aI K 700 (M_tape (M_tp v))), ((q 2), aI K 20 (M_number (M_cd v))), ((q 3), aZ K 5 (M_isTold (M_rd v))), ((q 4), aI K 80 (M_codeSort (M_cd v))), ((q 5), aI K 80 (M_codeA (M_cd v))), ((q 6), aI K 80 (M_codeB (M_cd v))), ((q 7), aI K 80 (M_codeC (M_cd v))), ((q 8), aI K 80 (M_codeName (M_cd v))), ((q 9), aI K 80 (M_codePlace (M_cd v))), ((q 10), aI K 80 (M_codeTo (M_cd v))), ((q 11), aI K 280 (M_labelName (M_cd v))), ((q 12), aI K 280 (M_labelAt (M_cd v))), ((q 13), aI K 64 (M_data (M_cd v))), ((q 14), aZ K 32 (M_hasData (M_rd v))), ((q 15), aI K 314 (M_s (M_rn v))), ((q 16), aI K 314 (M_aside (M_ex v))), ((q 17), aI K 314 (M_further (M_ex v))), ((q 18), aI K 314 (M_image (M_im v))), ((q 19), aI K 3 (M_sizeNow (M_rn v))), ((q 20), aI K 8 (M_aloneRegister (M_al v))), ((q 21), aI K 4 (M_aloneReal (M_al v))), ((q 22), aI K 32 (M_aloneMemory (M_al v))), ((q 23), aI K 999 (M_aloneOutput (M_al v)))]) rfl ?_
  refine r_aload_n (pc := 0) cx dX10_empties_0 0 rfl ?_
  refine r_get (pc := 1) cx cf_X10 0 26 rfl (by decide) rfl wd_1342 dX10_empties_1 ?_
  refine r_bipush (pc := 4) cx dX10_empties_4 bp_86 ?_
  refine r_iconst (pc := 6) cx dX10_empties_6 ic_0 ?_
  obtain ⟨f1, ef1, hf⟩ := nm_of hf
  refine r_iast (pc := 7) (ws' := [((q 0), ob 9 [.int (M_thrown v), .ref (q 1), .int (M_taped (M_tp v)), .ref (q 2), .ref (q 3), .ref (q 4), .ref (q 5), .ref (q 6), .ref (q 7), .ref (q 8), .ref (q 9), .ref (q 10), .ref (q 11), .ref (q 12), .ref (q 13), .ref (q 14), .int (M_lines (M_rd v)), .int (M_size (M_rd v)), .int (M_at (M_rd v)), .int (M_place (M_rd v)), .int (M_sort (M_rd v)), .int (M_value (M_rd v)), .int (M_fault (M_rd v)), .int (M_faultPlace (M_rd v)), .int (M_lastFault (M_lf v)), .int (M_lastPlace (M_lf v)), .ref (q 15), .ref (q 16), .ref (q 17), .ref (q 18), .int (M_hasImage (M_im v)), .int (M_spanNow (M_rn v)), .ref (q 19), .int (M_placeThen (M_rn v)), .int (M_alonePlace (M_al v)), .int (M_aloneSteps (M_al v)), .int (M_aloneOut (M_al v)), .ref (q 20), .ref (q 21), .ref (q 22), .ref (q 23), .int (M_shotAlarm (M_ex v)), .int (M_drawn (M_ex v))]), ((q 1), aI K 700 (M_tape (M_tp v))), ((q 2), aI K 20 (M_number (M_cd v))), ((q 3), aZ K 5 (M_isTold (M_rd v))), ((q 4), aI K 80 (M_codeSort (M_cd v))), ((q 5), aI K 80 (M_codeA (M_cd v))), ((q 6), aI K 80 (M_codeB (M_cd v))), ((q 7), aI K 80 (M_codeC (M_cd v))), ((q 8), aI K 80 (M_codeName (M_cd v))), ((q 9), aI K 80 (M_codePlace (M_cd v))), ((q 10), aI K 80 (M_codeTo (M_cd v))), ((q 11), aI K 280 (M_labelName (M_cd v))), ((q 12), aI K 280 (M_labelAt (M_cd v))), ((q 13), aI K 64 (M_data (M_cd v))), ((q 14), aZ K 32 (M_hasData (M_rd v))), ((q 15), aI K 314 f1), ((q 16), aI K 314 (M_aside (M_ex v))), ((q 17), aI K 314 (M_further (M_ex v))), ((q 18), aI K 314 (M_image (M_im v))), ((q 19), aI K 3 (M_sizeNow (M_rn v))), ((q 20), aI K 8 (M_aloneRegister (M_al v))), ((q 21), aI K 4 (M_aloneReal (M_al v))), ((q 22), aI K 32 (M_aloneMemory (M_al v))), ((q 23), aI K 999 (M_aloneOutput (M_al v)))]) cx 15 rfl (by decide) dX10_empties_7 ef1 rfl ?_
  refine r_aload_n (pc := 8) cx dX10_empties_8 0 rfl ?_
  refine r_get (pc := 9) cx cf_X10 0 26 rfl (by decide) rfl wd_1342 dX10_empties_9 ?_
  refine r_bipush (pc := 12) cx dX10_empties_12 bp_103 ?_
  refine r_iconst (pc := 14) cx dX10_empties_14 ic_0 ?_
  obtain ⟨f2, ef2, hf⟩ := nm_of hf
  refine r_iast (pc := 15) (ws' := [((q 0), ob 9 [.int (M_thrown v), .ref (q 1), .int (M_taped (M_tp v)), .ref (q 2), .ref (q 3), .ref (q 4), .ref (q 5), .ref (q 6), .ref (q 7), .ref (q 8), .ref (q 9), .ref (q 10), .ref (q 11), .ref (q 12), .ref (q 13), .ref (q 14), .int (M_lines (M_rd v)), .int (M_size (M_rd v)), .int (M_at (M_rd v)), .int (M_place (M_rd v)), .int (M_sort (M_rd v)), .int (M_value (M_rd v)), .int (M_fault (M_rd v)), .int (M_faultPlace (M_rd v)), .int (M_lastFault (M_lf v)), .int (M_lastPlace (M_lf v)), .ref (q 15), .ref (q 16), .ref (q 17), .ref (q 18), .int (M_hasImage (M_im v)), .int (M_spanNow (M_rn v)), .ref (q 19), .int (M_placeThen (M_rn v)), .int (M_alonePlace (M_al v)), .int (M_aloneSteps (M_al v)), .int (M_aloneOut (M_al v)), .ref (q 20), .ref (q 21), .ref (q 22), .ref (q 23), .int (M_shotAlarm (M_ex v)), .int (M_drawn (M_ex v))]), ((q 1), aI K 700 (M_tape (M_tp v))), ((q 2), aI K 20 (M_number (M_cd v))), ((q 3), aZ K 5 (M_isTold (M_rd v))), ((q 4), aI K 80 (M_codeSort (M_cd v))), ((q 5), aI K 80 (M_codeA (M_cd v))), ((q 6), aI K 80 (M_codeB (M_cd v))), ((q 7), aI K 80 (M_codeC (M_cd v))), ((q 8), aI K 80 (M_codeName (M_cd v))), ((q 9), aI K 80 (M_codePlace (M_cd v))), ((q 10), aI K 80 (M_codeTo (M_cd v))), ((q 11), aI K 280 (M_labelName (M_cd v))), ((q 12), aI K 280 (M_labelAt (M_cd v))), ((q 13), aI K 64 (M_data (M_cd v))), ((q 14), aZ K 32 (M_hasData (M_rd v))), ((q 15), aI K 314 f2), ((q 16), aI K 314 (M_aside (M_ex v))), ((q 17), aI K 314 (M_further (M_ex v))), ((q 18), aI K 314 (M_image (M_im v))), ((q 19), aI K 3 (M_sizeNow (M_rn v))), ((q 20), aI K 8 (M_aloneRegister (M_al v))), ((q 21), aI K 4 (M_aloneReal (M_al v))), ((q 22), aI K 32 (M_aloneMemory (M_al v))), ((q 23), aI K 999 (M_aloneOutput (M_al v)))]) cx 15 rfl (by decide) dX10_empties_15 ef2 rfl ?_
  refine r_aload_n (pc := 16) cx dX10_empties_16 0 rfl ?_
  refine r_get (pc := 17) cx cf_X10 0 26 rfl (by decide) rfl wd_1342 dX10_empties_17 ?_
  refine r_bipush (pc := 20) cx dX10_empties_20 bp_112 ?_
  refine r_iconst (pc := 22) cx dX10_empties_22 ic_0 ?_
  obtain ⟨f3, ef3, hf⟩ := nm_of hf
  refine r_iast (pc := 23) (ws' := [((q 0), ob 9 [.int (M_thrown v), .ref (q 1), .int (M_taped (M_tp v)), .ref (q 2), .ref (q 3), .ref (q 4), .ref (q 5), .ref (q 6), .ref (q 7), .ref (q 8), .ref (q 9), .ref (q 10), .ref (q 11), .ref (q 12), .ref (q 13), .ref (q 14), .int (M_lines (M_rd v)), .int (M_size (M_rd v)), .int (M_at (M_rd v)), .int (M_place (M_rd v)), .int (M_sort (M_rd v)), .int (M_value (M_rd v)), .int (M_fault (M_rd v)), .int (M_faultPlace (M_rd v)), .int (M_lastFault (M_lf v)), .int (M_lastPlace (M_lf v)), .ref (q 15), .ref (q 16), .ref (q 17), .ref (q 18), .int (M_hasImage (M_im v)), .int (M_spanNow (M_rn v)), .ref (q 19), .int (M_placeThen (M_rn v)), .int (M_alonePlace (M_al v)), .int (M_aloneSteps (M_al v)), .int (M_aloneOut (M_al v)), .ref (q 20), .ref (q 21), .ref (q 22), .ref (q 23), .int (M_shotAlarm (M_ex v)), .int (M_drawn (M_ex v))]), ((q 1), aI K 700 (M_tape (M_tp v))), ((q 2), aI K 20 (M_number (M_cd v))), ((q 3), aZ K 5 (M_isTold (M_rd v))), ((q 4), aI K 80 (M_codeSort (M_cd v))), ((q 5), aI K 80 (M_codeA (M_cd v))), ((q 6), aI K 80 (M_codeB (M_cd v))), ((q 7), aI K 80 (M_codeC (M_cd v))), ((q 8), aI K 80 (M_codeName (M_cd v))), ((q 9), aI K 80 (M_codePlace (M_cd v))), ((q 10), aI K 80 (M_codeTo (M_cd v))), ((q 11), aI K 280 (M_labelName (M_cd v))), ((q 12), aI K 280 (M_labelAt (M_cd v))), ((q 13), aI K 64 (M_data (M_cd v))), ((q 14), aZ K 32 (M_hasData (M_rd v))), ((q 15), aI K 314 f3), ((q 16), aI K 314 (M_aside (M_ex v))), ((q 17), aI K 314 (M_further (M_ex v))), ((q 18), aI K 314 (M_image (M_im v))), ((q 19), aI K 3 (M_sizeNow (M_rn v))), ((q 20), aI K 8 (M_aloneRegister (M_al v))), ((q 21), aI K 4 (M_aloneReal (M_al v))), ((q 22), aI K 32 (M_aloneMemory (M_al v))), ((q 23), aI K 999 (M_aloneOutput (M_al v)))]) cx 15 rfl (by decide) dX10_empties_23 ef3 rfl ?_
  refine r_aload_n (pc := 24) cx dX10_empties_24 0 rfl ?_
  refine r_get (pc := 25) cx cf_X10 0 26 rfl (by decide) rfl wd_1342 dX10_empties_25 ?_
  refine r_bipush (pc := 28) cx dX10_empties_28 bp_113 ?_
  refine r_iconst (pc := 30) cx dX10_empties_30 ic_0 ?_
  obtain ⟨f4, ef4, hf⟩ := nm_of hf
  refine r_iast (pc := 31) (ws' := [((q 0), ob 9 [.int (M_thrown v), .ref (q 1), .int (M_taped (M_tp v)), .ref (q 2), .ref (q 3), .ref (q 4), .ref (q 5), .ref (q 6), .ref (q 7), .ref (q 8), .ref (q 9), .ref (q 10), .ref (q 11), .ref (q 12), .ref (q 13), .ref (q 14), .int (M_lines (M_rd v)), .int (M_size (M_rd v)), .int (M_at (M_rd v)), .int (M_place (M_rd v)), .int (M_sort (M_rd v)), .int (M_value (M_rd v)), .int (M_fault (M_rd v)), .int (M_faultPlace (M_rd v)), .int (M_lastFault (M_lf v)), .int (M_lastPlace (M_lf v)), .ref (q 15), .ref (q 16), .ref (q 17), .ref (q 18), .int (M_hasImage (M_im v)), .int (M_spanNow (M_rn v)), .ref (q 19), .int (M_placeThen (M_rn v)), .int (M_alonePlace (M_al v)), .int (M_aloneSteps (M_al v)), .int (M_aloneOut (M_al v)), .ref (q 20), .ref (q 21), .ref (q 22), .ref (q 23), .int (M_shotAlarm (M_ex v)), .int (M_drawn (M_ex v))]), ((q 1), aI K 700 (M_tape (M_tp v))), ((q 2), aI K 20 (M_number (M_cd v))), ((q 3), aZ K 5 (M_isTold (M_rd v))), ((q 4), aI K 80 (M_codeSort (M_cd v))), ((q 5), aI K 80 (M_codeA (M_cd v))), ((q 6), aI K 80 (M_codeB (M_cd v))), ((q 7), aI K 80 (M_codeC (M_cd v))), ((q 8), aI K 80 (M_codeName (M_cd v))), ((q 9), aI K 80 (M_codePlace (M_cd v))), ((q 10), aI K 80 (M_codeTo (M_cd v))), ((q 11), aI K 280 (M_labelName (M_cd v))), ((q 12), aI K 280 (M_labelAt (M_cd v))), ((q 13), aI K 64 (M_data (M_cd v))), ((q 14), aZ K 32 (M_hasData (M_rd v))), ((q 15), aI K 314 f4), ((q 16), aI K 314 (M_aside (M_ex v))), ((q 17), aI K 314 (M_further (M_ex v))), ((q 18), aI K 314 (M_image (M_im v))), ((q 19), aI K 3 (M_sizeNow (M_rn v))), ((q 20), aI K 8 (M_aloneRegister (M_al v))), ((q 21), aI K 4 (M_aloneReal (M_al v))), ((q 22), aI K 32 (M_aloneMemory (M_al v))), ((q 23), aI K 999 (M_aloneOutput (M_al v)))]) cx 15 rfl (by decide) dX10_empties_31 ef4 rfl ?_
  cases hf
  exact r_vret (pc := 32) cx rfl dX10_empties_32
theorem yv_X10_empties : YV yX10_empties cX10_empties 1 (none) 0 := ⟨⟨by decide +kernel, by decide +kernel, by decide +kernel⟩, wd_1690, wd_102, wd_1689, wd_72⟩
def f_M_passes_L14  (k14_53 : T_M → Option (T_M)) : Nat → Int32 → T_M → Option (T_M)
  | 0, _, _ => none
  | n14 + 1, x3, v4 =>
    (if ((M_s (M_rn v4)) (112 : Int32).toNatClampNeg) ≤ x3 then (k14_53 v4) else (if ix ((114 : Int32) + x3) 314 then (if ix ((122 : Int32) + x3) 314 then (bd (f_M_leaves v4 ((M_s (M_rn v4)) (((114 : Int32) + x3)).toNatClampNeg) ((M_s (M_rn v4)) (((122 : Int32) + x3)).toNatClampNeg)) fun (v9 : T_M) => (nm (x3 + (1 : Int32)) fun (x11 : Int32) => (f_M_passes_L14 k14_53 n14 x11 v9))) else none) else none))
def f_M_passes_L81  (k81_118 : (Nat → Int32) → Option (T_M)) : Nat → Int32 → (Nat → Int32) → Option (T_M)
  | 0, _, _ => none
  | n81 + 1, x15, f16 =>
    (if (2 : Int32) ≤ x15 then (k81_118 f16) else (if ix ((0 : Int32) + x15) 314 then (nm (f16 (((0 : Int32) + x15)).toNatClampNeg) fun (x20 : Int32) => (if ix ((28 : Int32) + x15) 314 then (nm (upd f16 (((28 : Int32) + x15)).toNatClampNeg x20) fun (f22 : Nat → Int32) => (if ix ((2 : Int32) + x15) 314 then (nm (upd f22 (((2 : Int32) + x15)).toNatClampNeg (0 : Int32)) fun (f24 : Nat → Int32) => (nm (x15 + (1 : Int32)) fun (x25 : Int32) => (f_M_passes_L81 k81_118 n81 x25 f24))) else none)) else none)) else none))
def f_M_passes_L120  (k120_149 : (Nat → Int32) → Option (T_M)) : Nat → Int32 → (Nat → Int32) → Option (T_M)
  | 0, _, _ => none
  | n120 + 1, x26, f27 =>
    (if (16 : Int32) ≤ x26 then (k120_149 f27) else (if ix ((4 : Int32) + x26) 314 then (nm (f27 (((4 : Int32) + x26)).toNatClampNeg) fun (x31 : Int32) => (if ix ((30 : Int32) + x26) 314 then (nm (upd f27 (((30 : Int32) + x26)).toNatClampNeg x31) fun (f33 : Nat → Int32) => (nm (x26 + (1 : Int32)) fun (x34 : Int32) => (f_M_passes_L120 k120_149 n120 x34 f33))) else none)) else none))
def f_M_passes_L151  (k151_181 : (Nat → Int32) → Option (T_M)) : Nat → Int32 → (Nat → Int32) → Option (T_M)
  | 0, _, _ => none
  | n151 + 1, x35, f36 =>
    (if (8 : Int32) ≤ x35 then (k151_181 f36) else (if ix ((20 : Int32) + x35) 314 then (nm (f36 (((20 : Int32) + x35)).toNatClampNeg) fun (x40 : Int32) => (if ix ((46 : Int32) + x35) 314 then (nm (upd f36 (((46 : Int32) + x35)).toNatClampNeg x40) fun (f42 : Nat → Int32) => (nm (x35 + (1 : Int32)) fun (x43 : Int32) => (f_M_passes_L151 k151_181 n151 x43 f42))) else none)) else none))
def f_M_passes (v : T_M) : Option (T_M) :=
  (nm (((M_s (M_rn v)) (220 : Int32).toNatClampNeg) + (1 : Int32)) fun (x1 : Int32) => (nm (upd (M_s (M_rn v)) (220 : Int32).toNatClampNeg x1) fun (f2 : Nat → Int32) => (f_M_passes_L14 (fun (v5 : T_M) => (nm (((M_s (M_rn v5)) (231 : Int32).toNatClampNeg) + ((M_s (M_rn v5)) (2 : Int32).toNatClampNeg)) fun (x12 : Int32) => (nm (upd (M_s (M_rn v5)) (231 : Int32).toNatClampNeg x12) fun (f13 : Nat → Int32) => (nm (upd f13 (222 : Int32).toNatClampNeg (0 : Int32)) fun (f14 : Nat → Int32) => (f_M_passes_L81 (fun (f17 : (Nat → Int32)) => (f_M_passes_L120 (fun (f28 : (Nat → Int32)) => (f_M_passes_L151 (fun (f37 : (Nat → Int32)) => (bd (f_M_empties ((M_tp v5), (M_rd v5), (M_lf v5), (M_cd v5), (f37, (M_spanNow (M_rn v5)), (M_sizeNow (M_rn v5)), (M_placeThen (M_rn v5))), (M_ex v5), (M_im v5), (M_al v5), (M_thrown v5))) fun (v44 : T_M) => (bd (f_M_isHalted v44 (0 : Int32)) fun (r46 : Int32) => (if r46 = (0 : Int32) then (some v44) else (bd (f_M_isHalted v44 (1 : Int32)) fun (r49 : Int32) => (if r49 = (0 : Int32) then (some v44) else (nm (upd (M_s (M_rn v44)) (226 : Int32).toNatClampNeg (1 : Int32)) fun (f52 : Nat → Int32) => (some ((M_tp v44), (M_rd v44), (M_lf v44), (M_cd v44), (f52, (M_spanNow (M_rn v44)), (M_sizeNow (M_rn v44)), (M_placeThen (M_rn v44))), (M_ex v44), (M_im v44), (M_al v44), (M_thrown v44)))))))))) LF (0 : Int32) f28)) LF (0 : Int32) f17)) LF (0 : Int32) f14))))) LF (0 : Int32) ((M_tp v), (M_rd v), (M_lf v), (M_cd v), (f2, (M_spanNow (M_rn v)), (M_sizeNow (M_rn v)), (M_placeThen (M_rn v))), (M_ex v), (M_im v), (M_al v), (M_thrown v)))))
abbrev rm_M_passes : Room := { frames := 2, cells := 0, slots := 0, locals := 46 }
set_option maxRecDepth 100000 in
set_option maxHeartbeats 4000000 in
theorem m_M_passes (l : Launch) (D : va_G) (K : Nat → ClassId) (q : Nat → Nat) (v : T_M) {o_v : T_M} (hf : f_M_passes v = some o_v) : MV l yX10_passes cX10_passes 2 (none) rm_M_passes D K [.ref (q 0)] (cl_M K q v) (cl_M K q o_v) := by
  refine MV_of (loc0 := [(0, .ref (q 0))]) (by decide +kernel) rfl (Nat.le_of_ble_eq_true rfl) ?_
  intro p e s m args below meth c A cx
  unfold f_M_passes at hf
  refine r_ws (ws' := [((q 0), ob 9 [.int (M_thrown v), .ref (q 1), .int (M_taped (M_tp v)), .ref (q 2), .ref (q 3), .ref (q 4), .ref (q 5), .ref (q 6), .ref (q 7), .ref (q 8), .ref (q 9), .ref (q 10), .ref (q 11), .ref (q 12), .ref (q 13), .ref (q 14), .int (M_lines (M_rd v)), .int (M_size (M_rd v)), .int (M_at (M_rd v)), .int (M_place (M_rd v)), .int (M_sort (M_rd v)), .int (M_value (M_rd v)), .int (M_fault (M_rd v)), .int (M_faultPlace (M_rd v)), .int (M_lastFault (M_lf v)), .int (M_lastPlace (M_lf v)), .ref (q 15), .ref (q 16), .ref (q 17), .ref (q 18), .int (M_hasImage (M_im v)), .int (M_spanNow (M_rn v)), .ref (q 19), .int (M_placeThen (M_rn v)), .int (M_alonePlace (M_al v)), .int (M_aloneSteps (M_al v)), .int (M_aloneOut (M_al v)), .ref (q 20), .ref (q 21), .ref (q 22), .ref (q 23), .int (M_shotAlarm (M_ex v)), .int (M_drawn (M_ex v))]), ((q 1), aI K 700 (M_tape (M_tp v))), ((q 2), aI K 20 (M_number (M_cd v))), ((q 3), aZ K 5 (M_isTold (M_rd v))), ((q 4), aI K 80 (M_codeSort (M_cd v))), ((q 5), aI K 80 (M_codeA (M_cd v))), ((q 6), aI K 80 (M_codeB (M_cd v))), ((q 7), aI K 80 (M_codeC (M_cd v))), ((q 8), aI K 80 (M_codeName (M_cd v))), ((q 9), aI K 80 (M_codePlace (M_cd v))), ((q 10), aI K 80 (M_codeTo (M_cd v))), ((q 11), aI K 280 (M_labelName (M_cd v))), ((q 12), aI K 280 (M_labelAt (M_cd v))), ((q 13), aI K 64 (M_data (M_cd v))), ((q 14), aZ K 32 (M_hasData (M_rd v))), ((q 15), aI K 314 (M_s (M_rn v))), ((q 16), aI K 314 (M_aside (M_ex v))), ((q 17), aI K 314 (M_further (M_ex v))), ((q 18), aI K 314 (M_image (M_im v))), ((q 19), aI K 3 (M_sizeNow (M_rn v))), ((q 20), aI K 8 (M_aloneRegister (M_al v))), ((q 21), aI K 4 (M_aloneReal (M_al v))), ((q 22), aI K 32 (M_aloneMemory (M_al v))), ((q 23), aI K 999 (M_aloneOutput (M_al v)))]) rfl ?_
  refine r_aload_n (pc := 0) cx dX10_passes_0 0 rfl ?_
  refine r_get (pc := 1) cx cf_X10 0 26 rfl (by decide) rfl wd_1342 dX10_passes_1 ?_
  refine r_sipush (pc := 4) cx dX10_passes_4 sp_220 ?_
  refine r_dup2 (pc := 7) cx dX10_passes_7 rfl rfl ?_
  refine r_iald (pc := 8) cx 15 rfl (by decide) dX10_passes_8 ?_
  refine r_iconst (pc := 9) cx dX10_passes_9 ic_1 ?_
  refine r_iadd (pc := 10) cx dX10_passes_10 ?_
  obtain ⟨x1, ex1, hf⟩ := nm_of hf
  refine r_nm ex1 ?_
  obtain ⟨f2, ef2, hf⟩ := nm_of hf
  refine r_iast (pc := 11) (ws' := [((q 0), ob 9 [.int (M_thrown v), .ref (q 1), .int (M_taped (M_tp v)), .ref (q 2), .ref (q 3), .ref (q 4), .ref (q 5), .ref (q 6), .ref (q 7), .ref (q 8), .ref (q 9), .ref (q 10), .ref (q 11), .ref (q 12), .ref (q 13), .ref (q 14), .int (M_lines (M_rd v)), .int (M_size (M_rd v)), .int (M_at (M_rd v)), .int (M_place (M_rd v)), .int (M_sort (M_rd v)), .int (M_value (M_rd v)), .int (M_fault (M_rd v)), .int (M_faultPlace (M_rd v)), .int (M_lastFault (M_lf v)), .int (M_lastPlace (M_lf v)), .ref (q 15), .ref (q 16), .ref (q 17), .ref (q 18), .int (M_hasImage (M_im v)), .int (M_spanNow (M_rn v)), .ref (q 19), .int (M_placeThen (M_rn v)), .int (M_alonePlace (M_al v)), .int (M_aloneSteps (M_al v)), .int (M_aloneOut (M_al v)), .ref (q 20), .ref (q 21), .ref (q 22), .ref (q 23), .int (M_shotAlarm (M_ex v)), .int (M_drawn (M_ex v))]), ((q 1), aI K 700 (M_tape (M_tp v))), ((q 2), aI K 20 (M_number (M_cd v))), ((q 3), aZ K 5 (M_isTold (M_rd v))), ((q 4), aI K 80 (M_codeSort (M_cd v))), ((q 5), aI K 80 (M_codeA (M_cd v))), ((q 6), aI K 80 (M_codeB (M_cd v))), ((q 7), aI K 80 (M_codeC (M_cd v))), ((q 8), aI K 80 (M_codeName (M_cd v))), ((q 9), aI K 80 (M_codePlace (M_cd v))), ((q 10), aI K 80 (M_codeTo (M_cd v))), ((q 11), aI K 280 (M_labelName (M_cd v))), ((q 12), aI K 280 (M_labelAt (M_cd v))), ((q 13), aI K 64 (M_data (M_cd v))), ((q 14), aZ K 32 (M_hasData (M_rd v))), ((q 15), aI K 314 f2), ((q 16), aI K 314 (M_aside (M_ex v))), ((q 17), aI K 314 (M_further (M_ex v))), ((q 18), aI K 314 (M_image (M_im v))), ((q 19), aI K 3 (M_sizeNow (M_rn v))), ((q 20), aI K 8 (M_aloneRegister (M_al v))), ((q 21), aI K 4 (M_aloneReal (M_al v))), ((q 22), aI K 32 (M_aloneMemory (M_al v))), ((q 23), aI K 999 (M_aloneOutput (M_al v)))]) cx 15 rfl (by decide) dX10_passes_11 ef2 rfl ?_
  refine r_iconst (pc := 12) cx dX10_passes_12 ic_0 ?_
  refine r_istore_n (pc := 13) (loc' := [(1, .int (0 : Int32)), (0, .ref (q 0))]) cx dX10_passes_13 rfl (by decide) rfl ?_
  have hL14 : ∀ (k14_53 : T_M → Option (T_M)), (∀ (v5 : T_M), k14_53 v5 = some o_v → WW p l e rm_M_passes s m args below meth c D A 2 0 0 (MQ below (QV D K A (cl_M K q o_v)) args s 0 0 A) ([((q 0), ob 9 [.int (M_thrown v5), .ref (q 1), .int (M_taped (M_tp v5)), .ref (q 2), .ref (q 3), .ref (q 4), .ref (q 5), .ref (q 6), .ref (q 7), .ref (q 8), .ref (q 9), .ref (q 10), .ref (q 11), .ref (q 12), .ref (q 13), .ref (q 14), .int (M_lines (M_rd v5)), .int (M_size (M_rd v5)), .int (M_at (M_rd v5)), .int (M_place (M_rd v5)), .int (M_sort (M_rd v5)), .int (M_value (M_rd v5)), .int (M_fault (M_rd v5)), .int (M_faultPlace (M_rd v5)), .int (M_lastFault (M_lf v5)), .int (M_lastPlace (M_lf v5)), .ref (q 15), .ref (q 16), .ref (q 17), .ref (q 18), .int (M_hasImage (M_im v5)), .int (M_spanNow (M_rn v5)), .ref (q 19), .int (M_placeThen (M_rn v5)), .int (M_alonePlace (M_al v5)), .int (M_aloneSteps (M_al v5)), .int (M_aloneOut (M_al v5)), .ref (q 20), .ref (q 21), .ref (q 22), .ref (q 23), .int (M_shotAlarm (M_ex v5)), .int (M_drawn (M_ex v5))]), ((q 1), aI K 700 (M_tape (M_tp v5))), ((q 2), aI K 20 (M_number (M_cd v5))), ((q 3), aZ K 5 (M_isTold (M_rd v5))), ((q 4), aI K 80 (M_codeSort (M_cd v5))), ((q 5), aI K 80 (M_codeA (M_cd v5))), ((q 6), aI K 80 (M_codeB (M_cd v5))), ((q 7), aI K 80 (M_codeC (M_cd v5))), ((q 8), aI K 80 (M_codeName (M_cd v5))), ((q 9), aI K 80 (M_codePlace (M_cd v5))), ((q 10), aI K 80 (M_codeTo (M_cd v5))), ((q 11), aI K 280 (M_labelName (M_cd v5))), ((q 12), aI K 280 (M_labelAt (M_cd v5))), ((q 13), aI K 64 (M_data (M_cd v5))), ((q 14), aZ K 32 (M_hasData (M_rd v5))), ((q 15), aI K 314 (M_s (M_rn v5))), ((q 16), aI K 314 (M_aside (M_ex v5))), ((q 17), aI K 314 (M_further (M_ex v5))), ((q 18), aI K 314 (M_image (M_im v5))), ((q 19), aI K 3 (M_sizeNow (M_rn v5))), ((q 20), aI K 8 (M_aloneRegister (M_al v5))), ((q 21), aI K 4 (M_aloneReal (M_al v5))), ((q 22), aI K 32 (M_aloneMemory (M_al v5))), ((q 23), aI K 999 (M_aloneOutput (M_al v5)))]) ([(0, .ref (q 0))]) ([]) 53) → ∀ (n14 : Nat) (x3 : Int32) (v4 : T_M), f_M_passes_L14 k14_53 n14 x3 v4 = some o_v → WW p l e rm_M_passes s m args below meth c D A 2 0 0 (MQ below (QV D K A (cl_M K q o_v)) args s 0 0 A) ([((q 0), ob 9 [.int (M_thrown v4), .ref (q 1), .int (M_taped (M_tp v4)), .ref (q 2), .ref (q 3), .ref (q 4), .ref (q 5), .ref (q 6), .ref (q 7), .ref (q 8), .ref (q 9), .ref (q 10), .ref (q 11), .ref (q 12), .ref (q 13), .ref (q 14), .int (M_lines (M_rd v4)), .int (M_size (M_rd v4)), .int (M_at (M_rd v4)), .int (M_place (M_rd v4)), .int (M_sort (M_rd v4)), .int (M_value (M_rd v4)), .int (M_fault (M_rd v4)), .int (M_faultPlace (M_rd v4)), .int (M_lastFault (M_lf v4)), .int (M_lastPlace (M_lf v4)), .ref (q 15), .ref (q 16), .ref (q 17), .ref (q 18), .int (M_hasImage (M_im v4)), .int (M_spanNow (M_rn v4)), .ref (q 19), .int (M_placeThen (M_rn v4)), .int (M_alonePlace (M_al v4)), .int (M_aloneSteps (M_al v4)), .int (M_aloneOut (M_al v4)), .ref (q 20), .ref (q 21), .ref (q 22), .ref (q 23), .int (M_shotAlarm (M_ex v4)), .int (M_drawn (M_ex v4))]), ((q 1), aI K 700 (M_tape (M_tp v4))), ((q 2), aI K 20 (M_number (M_cd v4))), ((q 3), aZ K 5 (M_isTold (M_rd v4))), ((q 4), aI K 80 (M_codeSort (M_cd v4))), ((q 5), aI K 80 (M_codeA (M_cd v4))), ((q 6), aI K 80 (M_codeB (M_cd v4))), ((q 7), aI K 80 (M_codeC (M_cd v4))), ((q 8), aI K 80 (M_codeName (M_cd v4))), ((q 9), aI K 80 (M_codePlace (M_cd v4))), ((q 10), aI K 80 (M_codeTo (M_cd v4))), ((q 11), aI K 280 (M_labelName (M_cd v4))), ((q 12), aI K 280 (M_labelAt (M_cd v4))), ((q 13), aI K 64 (M_data (M_cd v4))), ((q 14), aZ K 32 (M_hasData (M_rd v4))), ((q 15), aI K 314 (M_s (M_rn v4))), ((q 16), aI K 314 (M_aside (M_ex v4))), ((q 17), aI K 314 (M_further (M_ex v4))), ((q 18), aI K 314 (M_image (M_im v4))), ((q 19), aI K 3 (M_sizeNow (M_rn v4))), ((q 20), aI K 8 (M_aloneRegister (M_al v4))), ((q 21), aI K 4 (M_aloneReal (M_al v4))), ((q 22), aI K 32 (M_aloneMemory (M_al v4))), ((q 23), aI K 999 (M_aloneOutput (M_al v4)))]) ([(0, .ref (q 0)), (1, .int x3)]) ([]) 14 := by
    intro k14_53 hk14_53 n14
    induction n14 with
    | zero => intro x3 v4 hf; exact (nomatch (show (none : Option (T_M)) = some _ from hf))
    | succ n14 ih14 =>
      intro x3 v4 hf
      rw [f_M_passes_L14] at hf
      refine r_iload_n (pc := 14) cx dX10_passes_14 1 rfl ?_
      refine r_aload_n (pc := 15) cx dX10_passes_15 0 rfl ?_
      refine r_get (pc := 16) cx cf_X10 0 26 rfl (by decide) rfl wd_1342 dX10_passes_16 ?_
      refine r_bipush (pc := 19) cx dX10_passes_19 bp_112 ?_
      refine r_iald (pc := 21) cx 15 rfl (by decide) dX10_passes_21 ?_
      refine r_icmp_ge (pc := 22) (tgt := 53) cx dX10_passes_22 (by decide) (fun h6 => ?_) (fun h6 => ?_)
      · have hf := ifp h6 hf
        refine r_loc (loc' := [(0, .ref (q 0))]) [0] rfl ?_
        exact hk14_53 _ hf
      · have hf := ifn h6 hf
        refine r_aload_n (pc := 25) cx dX10_passes_25 0 rfl ?_
        refine r_aload_n (pc := 26) cx dX10_passes_26 0 rfl ?_
        refine r_get (pc := 27) cx cf_X10 0 26 rfl (by decide) rfl wd_1342 dX10_passes_27 ?_
        refine r_bipush (pc := 30) cx dX10_passes_30 bp_114 ?_
        refine r_iload_n (pc := 32) cx dX10_passes_32 1 rfl ?_
        refine r_iadd (pc := 33) cx dX10_passes_33 ?_
        obtain ⟨h7, hf⟩ := chk_of hf
        refine r_iald (pc := 34) cx 15 rfl h7 dX10_passes_34 ?_
        refine r_aload_n (pc := 35) cx dX10_passes_35 0 rfl ?_
        refine r_get (pc := 36) cx cf_X10 0 26 rfl (by decide) rfl wd_1342 dX10_passes_36 ?_
        refine r_bipush (pc := 39) cx dX10_passes_39 bp_122 ?_
        refine r_iload_n (pc := 41) cx dX10_passes_41 1 rfl ?_
        refine r_iadd (pc := 42) cx dX10_passes_42 ?_
        obtain ⟨h8, hf⟩ := chk_of hf
        refine r_iald (pc := 43) cx 15 rfl h8 dX10_passes_43 ?_
        obtain ⟨v9, hc10, hf⟩ := bd_of hf
        refine r_Vv (pc := 44) (ws' := [((q 0), ob 9 [.int (M_thrown v9), .ref (q 1), .int (M_taped (M_tp v9)), .ref (q 2), .ref (q 3), .ref (q 4), .ref (q 5), .ref (q 6), .ref (q 7), .ref (q 8), .ref (q 9), .ref (q 10), .ref (q 11), .ref (q 12), .ref (q 13), .ref (q 14), .int (M_lines (M_rd v9)), .int (M_size (M_rd v9)), .int (M_at (M_rd v9)), .int (M_place (M_rd v9)), .int (M_sort (M_rd v9)), .int (M_value (M_rd v9)), .int (M_fault (M_rd v9)), .int (M_faultPlace (M_rd v9)), .int (M_lastFault (M_lf v9)), .int (M_lastPlace (M_lf v9)), .ref (q 15), .ref (q 16), .ref (q 17), .ref (q 18), .int (M_hasImage (M_im v9)), .int (M_spanNow (M_rn v9)), .ref (q 19), .int (M_placeThen (M_rn v9)), .int (M_alonePlace (M_al v9)), .int (M_aloneSteps (M_al v9)), .int (M_aloneOut (M_al v9)), .ref (q 20), .ref (q 21), .ref (q 22), .ref (q 23), .int (M_shotAlarm (M_ex v9)), .int (M_drawn (M_ex v9))]), ((q 1), aI K 700 (M_tape (M_tp v9))), ((q 2), aI K 20 (M_number (M_cd v9))), ((q 3), aZ K 5 (M_isTold (M_rd v9))), ((q 4), aI K 80 (M_codeSort (M_cd v9))), ((q 5), aI K 80 (M_codeA (M_cd v9))), ((q 6), aI K 80 (M_codeB (M_cd v9))), ((q 7), aI K 80 (M_codeC (M_cd v9))), ((q 8), aI K 80 (M_codeName (M_cd v9))), ((q 9), aI K 80 (M_codePlace (M_cd v9))), ((q 10), aI K 80 (M_codeTo (M_cd v9))), ((q 11), aI K 280 (M_labelName (M_cd v9))), ((q 12), aI K 280 (M_labelAt (M_cd v9))), ((q 13), aI K 64 (M_data (M_cd v9))), ((q 14), aZ K 32 (M_hasData (M_rd v9))), ((q 15), aI K 314 (M_s (M_rn v9))), ((q 16), aI K 314 (M_aside (M_ex v9))), ((q 17), aI K 314 (M_further (M_ex v9))), ((q 18), aI K 314 (M_image (M_im v9))), ((q 19), aI K 3 (M_sizeNow (M_rn v9))), ((q 20), aI K 8 (M_aloneRegister (M_al v9))), ((q 21), aI K 4 (M_aloneReal (M_al v9))), ((q 22), aI K 32 (M_aloneMemory (M_al v9))), ((q 23), aI K 999 (M_aloneOutput (M_al v9)))]) cx [.int ((M_s (M_rn v4)) (((114 : Int32) + x3)).toNatClampNeg), .int ((M_s (M_rn v4)) (((122 : Int32) + x3)).toNatClampNeg)] [] [0, 1, 2, 3, 4, 5, 6, 7, 8, 9, 10, 11, 12, 13, 14, 15, 16, 17, 18, 19, 20, 21, 22, 23] (m_M_leaves l D K q v4 ((M_s (M_rn v4)) (((114 : Int32) + x3)).toNatClampNeg) ((M_s (M_rn v4)) (((122 : Int32) + x3)).toNatClampNeg) hc10) yv_X10_leaves wd_1679 ⟨rfl, rfl⟩ (by decide) rfl rfl rfl (by decide) 0 rfl rfl rfl (Nat.le_of_ble_eq_true rfl) dX10_passes_44 ?_
        obtain ⟨x11, ex11, hf⟩ := nm_of hf
        refine r_iinc (pc := 47) (loc' := [(1, .int x11), (0, .ref (q 0))]) (v := x11) cx dX10_passes_47 1 rfl ((congrArg (fun z => x3 + z) ic_1).trans ex11.symm) (by decide) rfl ?_
        refine r_goto (pc := 50) (tgt := 14) cx dX10_passes_50 (by decide) ?_
        refine r_loc (loc' := [(0, .ref (q 0)), (1, .int x11)]) [1, 0] rfl ?_
        exact ih14 _ _ hf
  refine r_loc (loc' := [(0, .ref (q 0)), (1, .int (0 : Int32))]) [1, 0] rfl ?_
  refine hL14 _ (fun v5 hf => ?_) _ _ _ hf
  refine r_aload_n (pc := 53) cx dX10_passes_53 0 rfl ?_
  refine r_get (pc := 54) cx cf_X10 0 26 rfl (by decide) rfl wd_1342 dX10_passes_54 ?_
  refine r_sipush (pc := 57) cx dX10_passes_57 sp_231 ?_
  refine r_dup2 (pc := 60) cx dX10_passes_60 rfl rfl ?_
  refine r_iald (pc := 61) cx 15 rfl (by decide) dX10_passes_61 ?_
  refine r_aload_n (pc := 62) cx dX10_passes_62 0 rfl ?_
  refine r_get (pc := 63) cx cf_X10 0 26 rfl (by decide) rfl wd_1342 dX10_passes_63 ?_
  refine r_iconst (pc := 66) cx dX10_passes_66 ic_2 ?_
  refine r_iald (pc := 67) cx 15 rfl (by decide) dX10_passes_67 ?_
  refine r_iadd (pc := 68) cx dX10_passes_68 ?_
  obtain ⟨x12, ex12, hf⟩ := nm_of hf
  refine r_nm ex12 ?_
  obtain ⟨f13, ef13, hf⟩ := nm_of hf
  refine r_iast (pc := 69) (ws' := [((q 0), ob 9 [.int (M_thrown v5), .ref (q 1), .int (M_taped (M_tp v5)), .ref (q 2), .ref (q 3), .ref (q 4), .ref (q 5), .ref (q 6), .ref (q 7), .ref (q 8), .ref (q 9), .ref (q 10), .ref (q 11), .ref (q 12), .ref (q 13), .ref (q 14), .int (M_lines (M_rd v5)), .int (M_size (M_rd v5)), .int (M_at (M_rd v5)), .int (M_place (M_rd v5)), .int (M_sort (M_rd v5)), .int (M_value (M_rd v5)), .int (M_fault (M_rd v5)), .int (M_faultPlace (M_rd v5)), .int (M_lastFault (M_lf v5)), .int (M_lastPlace (M_lf v5)), .ref (q 15), .ref (q 16), .ref (q 17), .ref (q 18), .int (M_hasImage (M_im v5)), .int (M_spanNow (M_rn v5)), .ref (q 19), .int (M_placeThen (M_rn v5)), .int (M_alonePlace (M_al v5)), .int (M_aloneSteps (M_al v5)), .int (M_aloneOut (M_al v5)), .ref (q 20), .ref (q 21), .ref (q 22), .ref (q 23), .int (M_shotAlarm (M_ex v5)), .int (M_drawn (M_ex v5))]), ((q 1), aI K 700 (M_tape (M_tp v5))), ((q 2), aI K 20 (M_number (M_cd v5))), ((q 3), aZ K 5 (M_isTold (M_rd v5))), ((q 4), aI K 80 (M_codeSort (M_cd v5))), ((q 5), aI K 80 (M_codeA (M_cd v5))), ((q 6), aI K 80 (M_codeB (M_cd v5))), ((q 7), aI K 80 (M_codeC (M_cd v5))), ((q 8), aI K 80 (M_codeName (M_cd v5))), ((q 9), aI K 80 (M_codePlace (M_cd v5))), ((q 10), aI K 80 (M_codeTo (M_cd v5))), ((q 11), aI K 280 (M_labelName (M_cd v5))), ((q 12), aI K 280 (M_labelAt (M_cd v5))), ((q 13), aI K 64 (M_data (M_cd v5))), ((q 14), aZ K 32 (M_hasData (M_rd v5))), ((q 15), aI K 314 f13), ((q 16), aI K 314 (M_aside (M_ex v5))), ((q 17), aI K 314 (M_further (M_ex v5))), ((q 18), aI K 314 (M_image (M_im v5))), ((q 19), aI K 3 (M_sizeNow (M_rn v5))), ((q 20), aI K 8 (M_aloneRegister (M_al v5))), ((q 21), aI K 4 (M_aloneReal (M_al v5))), ((q 22), aI K 32 (M_aloneMemory (M_al v5))), ((q 23), aI K 999 (M_aloneOutput (M_al v5)))]) cx 15 rfl (by decide) dX10_passes_69 ef13 rfl ?_
  refine r_aload_n (pc := 70) cx dX10_passes_70 0 rfl ?_
  refine r_get (pc := 71) cx cf_X10 0 26 rfl (by decide) rfl wd_1342 dX10_passes_71 ?_
  refine r_sipush (pc := 74) cx dX10_passes_74 sp_222 ?_
  refine r_iconst (pc := 77) cx dX10_passes_77 ic_0 ?_
  obtain ⟨f14, ef14, hf⟩ := nm_of hf
  refine r_iast (pc := 78) (ws' := [((q 0), ob 9 [.int (M_thrown v5), .ref (q 1), .int (M_taped (M_tp v5)), .ref (q 2), .ref (q 3), .ref (q 4), .ref (q 5), .ref (q 6), .ref (q 7), .ref (q 8), .ref (q 9), .ref (q 10), .ref (q 11), .ref (q 12), .ref (q 13), .ref (q 14), .int (M_lines (M_rd v5)), .int (M_size (M_rd v5)), .int (M_at (M_rd v5)), .int (M_place (M_rd v5)), .int (M_sort (M_rd v5)), .int (M_value (M_rd v5)), .int (M_fault (M_rd v5)), .int (M_faultPlace (M_rd v5)), .int (M_lastFault (M_lf v5)), .int (M_lastPlace (M_lf v5)), .ref (q 15), .ref (q 16), .ref (q 17), .ref (q 18), .int (M_hasImage (M_im v5)), .int (M_spanNow (M_rn v5)), .ref (q 19), .int (M_placeThen (M_rn v5)), .int (M_alonePlace (M_al v5)), .int (M_aloneSteps (M_al v5)), .int (M_aloneOut (M_al v5)), .ref (q 20), .ref (q 21), .ref (q 22), .ref (q 23), .int (M_shotAlarm (M_ex v5)), .int (M_drawn (M_ex v5))]), ((q 1), aI K 700 (M_tape (M_tp v5))), ((q 2), aI K 20 (M_number (M_cd v5))), ((q 3), aZ K 5 (M_isTold (M_rd v5))), ((q 4), aI K 80 (M_codeSort (M_cd v5))), ((q 5), aI K 80 (M_codeA (M_cd v5))), ((q 6), aI K 80 (M_codeB (M_cd v5))), ((q 7), aI K 80 (M_codeC (M_cd v5))), ((q 8), aI K 80 (M_codeName (M_cd v5))), ((q 9), aI K 80 (M_codePlace (M_cd v5))), ((q 10), aI K 80 (M_codeTo (M_cd v5))), ((q 11), aI K 280 (M_labelName (M_cd v5))), ((q 12), aI K 280 (M_labelAt (M_cd v5))), ((q 13), aI K 64 (M_data (M_cd v5))), ((q 14), aZ K 32 (M_hasData (M_rd v5))), ((q 15), aI K 314 f14), ((q 16), aI K 314 (M_aside (M_ex v5))), ((q 17), aI K 314 (M_further (M_ex v5))), ((q 18), aI K 314 (M_image (M_im v5))), ((q 19), aI K 3 (M_sizeNow (M_rn v5))), ((q 20), aI K 8 (M_aloneRegister (M_al v5))), ((q 21), aI K 4 (M_aloneReal (M_al v5))), ((q 22), aI K 32 (M_aloneMemory (M_al v5))), ((q 23), aI K 999 (M_aloneOutput (M_al v5)))]) cx 15 rfl (by decide) dX10_passes_78 ef14 rfl ?_
  refine r_iconst (pc := 79) cx dX10_passes_79 ic_0 ?_
  refine r_istore_n (pc := 80) (loc' := [(1, .int (0 : Int32)), (0, .ref (q 0))]) cx dX10_passes_80 rfl (by decide) rfl ?_
  have hL81 : ∀ (k81_118 : (Nat → Int32) → Option (T_M)), (∀ (f17 : (Nat → Int32)), k81_118 f17 = some o_v → WW p l e rm_M_passes s m args below meth c D A 2 0 0 (MQ below (QV D K A (cl_M K q o_v)) args s 0 0 A) ([((q 0), ob 9 [.int (M_thrown v5), .ref (q 1), .int (M_taped (M_tp v5)), .ref (q 2), .ref (q 3), .ref (q 4), .ref (q 5), .ref (q 6), .ref (q 7), .ref (q 8), .ref (q 9), .ref (q 10), .ref (q 11), .ref (q 12), .ref (q 13), .ref (q 14), .int (M_lines (M_rd v5)), .int (M_size (M_rd v5)), .int (M_at (M_rd v5)), .int (M_place (M_rd v5)), .int (M_sort (M_rd v5)), .int (M_value (M_rd v5)), .int (M_fault (M_rd v5)), .int (M_faultPlace (M_rd v5)), .int (M_lastFault (M_lf v5)), .int (M_lastPlace (M_lf v5)), .ref (q 15), .ref (q 16), .ref (q 17), .ref (q 18), .int (M_hasImage (M_im v5)), .int (M_spanNow (M_rn v5)), .ref (q 19), .int (M_placeThen (M_rn v5)), .int (M_alonePlace (M_al v5)), .int (M_aloneSteps (M_al v5)), .int (M_aloneOut (M_al v5)), .ref (q 20), .ref (q 21), .ref (q 22), .ref (q 23), .int (M_shotAlarm (M_ex v5)), .int (M_drawn (M_ex v5))]), ((q 1), aI K 700 (M_tape (M_tp v5))), ((q 2), aI K 20 (M_number (M_cd v5))), ((q 3), aZ K 5 (M_isTold (M_rd v5))), ((q 4), aI K 80 (M_codeSort (M_cd v5))), ((q 5), aI K 80 (M_codeA (M_cd v5))), ((q 6), aI K 80 (M_codeB (M_cd v5))), ((q 7), aI K 80 (M_codeC (M_cd v5))), ((q 8), aI K 80 (M_codeName (M_cd v5))), ((q 9), aI K 80 (M_codePlace (M_cd v5))), ((q 10), aI K 80 (M_codeTo (M_cd v5))), ((q 11), aI K 280 (M_labelName (M_cd v5))), ((q 12), aI K 280 (M_labelAt (M_cd v5))), ((q 13), aI K 64 (M_data (M_cd v5))), ((q 14), aZ K 32 (M_hasData (M_rd v5))), ((q 15), aI K 314 f17), ((q 16), aI K 314 (M_aside (M_ex v5))), ((q 17), aI K 314 (M_further (M_ex v5))), ((q 18), aI K 314 (M_image (M_im v5))), ((q 19), aI K 3 (M_sizeNow (M_rn v5))), ((q 20), aI K 8 (M_aloneRegister (M_al v5))), ((q 21), aI K 4 (M_aloneReal (M_al v5))), ((q 22), aI K 32 (M_aloneMemory (M_al v5))), ((q 23), aI K 999 (M_aloneOutput (M_al v5)))]) ([(0, .ref (q 0))]) ([]) 118) → ∀ (n81 : Nat) (x15 : Int32) (f16 : (Nat → Int32)), f_M_passes_L81 k81_118 n81 x15 f16 = some o_v → WW p l e rm_M_passes s m args below meth c D A 2 0 0 (MQ below (QV D K A (cl_M K q o_v)) args s 0 0 A) ([((q 0), ob 9 [.int (M_thrown v5), .ref (q 1), .int (M_taped (M_tp v5)), .ref (q 2), .ref (q 3), .ref (q 4), .ref (q 5), .ref (q 6), .ref (q 7), .ref (q 8), .ref (q 9), .ref (q 10), .ref (q 11), .ref (q 12), .ref (q 13), .ref (q 14), .int (M_lines (M_rd v5)), .int (M_size (M_rd v5)), .int (M_at (M_rd v5)), .int (M_place (M_rd v5)), .int (M_sort (M_rd v5)), .int (M_value (M_rd v5)), .int (M_fault (M_rd v5)), .int (M_faultPlace (M_rd v5)), .int (M_lastFault (M_lf v5)), .int (M_lastPlace (M_lf v5)), .ref (q 15), .ref (q 16), .ref (q 17), .ref (q 18), .int (M_hasImage (M_im v5)), .int (M_spanNow (M_rn v5)), .ref (q 19), .int (M_placeThen (M_rn v5)), .int (M_alonePlace (M_al v5)), .int (M_aloneSteps (M_al v5)), .int (M_aloneOut (M_al v5)), .ref (q 20), .ref (q 21), .ref (q 22), .ref (q 23), .int (M_shotAlarm (M_ex v5)), .int (M_drawn (M_ex v5))]), ((q 1), aI K 700 (M_tape (M_tp v5))), ((q 2), aI K 20 (M_number (M_cd v5))), ((q 3), aZ K 5 (M_isTold (M_rd v5))), ((q 4), aI K 80 (M_codeSort (M_cd v5))), ((q 5), aI K 80 (M_codeA (M_cd v5))), ((q 6), aI K 80 (M_codeB (M_cd v5))), ((q 7), aI K 80 (M_codeC (M_cd v5))), ((q 8), aI K 80 (M_codeName (M_cd v5))), ((q 9), aI K 80 (M_codePlace (M_cd v5))), ((q 10), aI K 80 (M_codeTo (M_cd v5))), ((q 11), aI K 280 (M_labelName (M_cd v5))), ((q 12), aI K 280 (M_labelAt (M_cd v5))), ((q 13), aI K 64 (M_data (M_cd v5))), ((q 14), aZ K 32 (M_hasData (M_rd v5))), ((q 15), aI K 314 f16), ((q 16), aI K 314 (M_aside (M_ex v5))), ((q 17), aI K 314 (M_further (M_ex v5))), ((q 18), aI K 314 (M_image (M_im v5))), ((q 19), aI K 3 (M_sizeNow (M_rn v5))), ((q 20), aI K 8 (M_aloneRegister (M_al v5))), ((q 21), aI K 4 (M_aloneReal (M_al v5))), ((q 22), aI K 32 (M_aloneMemory (M_al v5))), ((q 23), aI K 999 (M_aloneOutput (M_al v5)))]) ([(0, .ref (q 0)), (1, .int x15)]) ([]) 81 := by
    intro k81_118 hk81_118 n81
    induction n81 with
    | zero => intro x15 f16 hf; exact (nomatch (show (none : Option (T_M)) = some _ from hf))
    | succ n81 ih81 =>
      intro x15 f16 hf
      rw [f_M_passes_L81] at hf
      refine r_iload_n (pc := 81) cx dX10_passes_81 1 rfl ?_
      refine r_iconst (pc := 82) cx dX10_passes_82 ic_2 ?_
      refine r_icmp_ge (pc := 83) (tgt := 118) cx dX10_passes_83 (by decide) (fun h18 => ?_) (fun h18 => ?_)
      · have hf := ifp h18 hf
        refine r_loc (loc' := [(0, .ref (q 0))]) [0] rfl ?_
        exact hk81_118 _ hf
      · have hf := ifn h18 hf
        refine r_aload_n (pc := 86) cx dX10_passes_86 0 rfl ?_
        refine r_get (pc := 87) cx cf_X10 0 26 rfl (by decide) rfl wd_1342 dX10_passes_87 ?_
        refine r_bipush (pc := 90) cx dX10_passes_90 bp_28 ?_
        refine r_iload_n (pc := 92) cx dX10_passes_92 1 rfl ?_
        refine r_iadd (pc := 93) cx dX10_passes_93 ?_
        refine r_aload_n (pc := 94) cx dX10_passes_94 0 rfl ?_
        refine r_get (pc := 95) cx cf_X10 0 26 rfl (by decide) rfl wd_1342 dX10_passes_95 ?_
        refine r_iconst (pc := 98) cx dX10_passes_98 ic_0 ?_
        refine r_iload_n (pc := 99) cx dX10_passes_99 1 rfl ?_
        refine r_iadd (pc := 100) cx dX10_passes_100 ?_
        obtain ⟨h19, hf⟩ := chk_of hf
        refine r_iald (pc := 101) cx 15 rfl h19 dX10_passes_101 ?_
        obtain ⟨x20, ex20, hf⟩ := nm_of hf
        refine r_nm ex20 ?_
        obtain ⟨h21, hf⟩ := chk_of hf
        obtain ⟨f22, ef22, hf⟩ := nm_of hf
        refine r_iast (pc := 102) (ws' := [((q 0), ob 9 [.int (M_thrown v5), .ref (q 1), .int (M_taped (M_tp v5)), .ref (q 2), .ref (q 3), .ref (q 4), .ref (q 5), .ref (q 6), .ref (q 7), .ref (q 8), .ref (q 9), .ref (q 10), .ref (q 11), .ref (q 12), .ref (q 13), .ref (q 14), .int (M_lines (M_rd v5)), .int (M_size (M_rd v5)), .int (M_at (M_rd v5)), .int (M_place (M_rd v5)), .int (M_sort (M_rd v5)), .int (M_value (M_rd v5)), .int (M_fault (M_rd v5)), .int (M_faultPlace (M_rd v5)), .int (M_lastFault (M_lf v5)), .int (M_lastPlace (M_lf v5)), .ref (q 15), .ref (q 16), .ref (q 17), .ref (q 18), .int (M_hasImage (M_im v5)), .int (M_spanNow (M_rn v5)), .ref (q 19), .int (M_placeThen (M_rn v5)), .int (M_alonePlace (M_al v5)), .int (M_aloneSteps (M_al v5)), .int (M_aloneOut (M_al v5)), .ref (q 20), .ref (q 21), .ref (q 22), .ref (q 23), .int (M_shotAlarm (M_ex v5)), .int (M_drawn (M_ex v5))]), ((q 1), aI K 700 (M_tape (M_tp v5))), ((q 2), aI K 20 (M_number (M_cd v5))), ((q 3), aZ K 5 (M_isTold (M_rd v5))), ((q 4), aI K 80 (M_codeSort (M_cd v5))), ((q 5), aI K 80 (M_codeA (M_cd v5))), ((q 6), aI K 80 (M_codeB (M_cd v5))), ((q 7), aI K 80 (M_codeC (M_cd v5))), ((q 8), aI K 80 (M_codeName (M_cd v5))), ((q 9), aI K 80 (M_codePlace (M_cd v5))), ((q 10), aI K 80 (M_codeTo (M_cd v5))), ((q 11), aI K 280 (M_labelName (M_cd v5))), ((q 12), aI K 280 (M_labelAt (M_cd v5))), ((q 13), aI K 64 (M_data (M_cd v5))), ((q 14), aZ K 32 (M_hasData (M_rd v5))), ((q 15), aI K 314 f22), ((q 16), aI K 314 (M_aside (M_ex v5))), ((q 17), aI K 314 (M_further (M_ex v5))), ((q 18), aI K 314 (M_image (M_im v5))), ((q 19), aI K 3 (M_sizeNow (M_rn v5))), ((q 20), aI K 8 (M_aloneRegister (M_al v5))), ((q 21), aI K 4 (M_aloneReal (M_al v5))), ((q 22), aI K 32 (M_aloneMemory (M_al v5))), ((q 23), aI K 999 (M_aloneOutput (M_al v5)))]) cx 15 rfl h21 dX10_passes_102 ef22 rfl ?_
        refine r_aload_n (pc := 103) cx dX10_passes_103 0 rfl ?_
        refine r_get (pc := 104) cx cf_X10 0 26 rfl (by decide) rfl wd_1342 dX10_passes_104 ?_
        refine r_iconst (pc := 107) cx dX10_passes_107 ic_2 ?_
        refine r_iload_n (pc := 108) cx dX10_passes_108 1 rfl ?_
        refine r_iadd (pc := 109) cx dX10_passes_109 ?_
        refine r_iconst (pc := 110) cx dX10_passes_110 ic_0 ?_
        obtain ⟨h23, hf⟩ := chk_of hf
        obtain ⟨f24, ef24, hf⟩ := nm_of hf
        refine r_iast (pc := 111) (ws' := [((q 0), ob 9 [.int (M_thrown v5), .ref (q 1), .int (M_taped (M_tp v5)), .ref (q 2), .ref (q 3), .ref (q 4), .ref (q 5), .ref (q 6), .ref (q 7), .ref (q 8), .ref (q 9), .ref (q 10), .ref (q 11), .ref (q 12), .ref (q 13), .ref (q 14), .int (M_lines (M_rd v5)), .int (M_size (M_rd v5)), .int (M_at (M_rd v5)), .int (M_place (M_rd v5)), .int (M_sort (M_rd v5)), .int (M_value (M_rd v5)), .int (M_fault (M_rd v5)), .int (M_faultPlace (M_rd v5)), .int (M_lastFault (M_lf v5)), .int (M_lastPlace (M_lf v5)), .ref (q 15), .ref (q 16), .ref (q 17), .ref (q 18), .int (M_hasImage (M_im v5)), .int (M_spanNow (M_rn v5)), .ref (q 19), .int (M_placeThen (M_rn v5)), .int (M_alonePlace (M_al v5)), .int (M_aloneSteps (M_al v5)), .int (M_aloneOut (M_al v5)), .ref (q 20), .ref (q 21), .ref (q 22), .ref (q 23), .int (M_shotAlarm (M_ex v5)), .int (M_drawn (M_ex v5))]), ((q 1), aI K 700 (M_tape (M_tp v5))), ((q 2), aI K 20 (M_number (M_cd v5))), ((q 3), aZ K 5 (M_isTold (M_rd v5))), ((q 4), aI K 80 (M_codeSort (M_cd v5))), ((q 5), aI K 80 (M_codeA (M_cd v5))), ((q 6), aI K 80 (M_codeB (M_cd v5))), ((q 7), aI K 80 (M_codeC (M_cd v5))), ((q 8), aI K 80 (M_codeName (M_cd v5))), ((q 9), aI K 80 (M_codePlace (M_cd v5))), ((q 10), aI K 80 (M_codeTo (M_cd v5))), ((q 11), aI K 280 (M_labelName (M_cd v5))), ((q 12), aI K 280 (M_labelAt (M_cd v5))), ((q 13), aI K 64 (M_data (M_cd v5))), ((q 14), aZ K 32 (M_hasData (M_rd v5))), ((q 15), aI K 314 f24), ((q 16), aI K 314 (M_aside (M_ex v5))), ((q 17), aI K 314 (M_further (M_ex v5))), ((q 18), aI K 314 (M_image (M_im v5))), ((q 19), aI K 3 (M_sizeNow (M_rn v5))), ((q 20), aI K 8 (M_aloneRegister (M_al v5))), ((q 21), aI K 4 (M_aloneReal (M_al v5))), ((q 22), aI K 32 (M_aloneMemory (M_al v5))), ((q 23), aI K 999 (M_aloneOutput (M_al v5)))]) cx 15 rfl h23 dX10_passes_111 ef24 rfl ?_
        obtain ⟨x25, ex25, hf⟩ := nm_of hf
        refine r_iinc (pc := 112) (loc' := [(1, .int x25), (0, .ref (q 0))]) (v := x25) cx dX10_passes_112 1 rfl ((congrArg (fun z => x15 + z) ic_1).trans ex25.symm) (by decide) rfl ?_
        refine r_goto (pc := 115) (tgt := 81) cx dX10_passes_115 (by decide) ?_
        refine r_loc (loc' := [(0, .ref (q 0)), (1, .int x25)]) [1, 0] rfl ?_
        exact ih81 _ _ hf
  refine r_loc (loc' := [(0, .ref (q 0)), (1, .int (0 : Int32))]) [1, 0] rfl ?_
  refine hL81 _ (fun f17 hf => ?_) _ _ _ hf
  refine r_iconst (pc := 118) cx dX10_passes_118 ic_0 ?_
  refine r_istore_n (pc := 119) (loc' := [(1, .int (0 : Int32)), (0, .ref (q 0))]) cx dX10_passes_119 rfl (by decide) rfl ?_
  have hL120 : ∀ (k120_149 : (Nat → Int32) → Option (T_M)), (∀ (f28 : (Nat → Int32)), k120_149 f28 = some o_v → WW p l e rm_M_passes s m args below meth c D A 2 0 0 (MQ below (QV D K A (cl_M K q o_v)) args s 0 0 A) ([((q 0), ob 9 [.int (M_thrown v5), .ref (q 1), .int (M_taped (M_tp v5)), .ref (q 2), .ref (q 3), .ref (q 4), .ref (q 5), .ref (q 6), .ref (q 7), .ref (q 8), .ref (q 9), .ref (q 10), .ref (q 11), .ref (q 12), .ref (q 13), .ref (q 14), .int (M_lines (M_rd v5)), .int (M_size (M_rd v5)), .int (M_at (M_rd v5)), .int (M_place (M_rd v5)), .int (M_sort (M_rd v5)), .int (M_value (M_rd v5)), .int (M_fault (M_rd v5)), .int (M_faultPlace (M_rd v5)), .int (M_lastFault (M_lf v5)), .int (M_lastPlace (M_lf v5)), .ref (q 15), .ref (q 16), .ref (q 17), .ref (q 18), .int (M_hasImage (M_im v5)), .int (M_spanNow (M_rn v5)), .ref (q 19), .int (M_placeThen (M_rn v5)), .int (M_alonePlace (M_al v5)), .int (M_aloneSteps (M_al v5)), .int (M_aloneOut (M_al v5)), .ref (q 20), .ref (q 21), .ref (q 22), .ref (q 23), .int (M_shotAlarm (M_ex v5)), .int (M_drawn (M_ex v5))]), ((q 1), aI K 700 (M_tape (M_tp v5))), ((q 2), aI K 20 (M_number (M_cd v5))), ((q 3), aZ K 5 (M_isTold (M_rd v5))), ((q 4), aI K 80 (M_codeSort (M_cd v5))), ((q 5), aI K 80 (M_codeA (M_cd v5))), ((q 6), aI K 80 (M_codeB (M_cd v5))), ((q 7), aI K 80 (M_codeC (M_cd v5))), ((q 8), aI K 80 (M_codeName (M_cd v5))), ((q 9), aI K 80 (M_codePlace (M_cd v5))), ((q 10), aI K 80 (M_codeTo (M_cd v5))), ((q 11), aI K 280 (M_labelName (M_cd v5))), ((q 12), aI K 280 (M_labelAt (M_cd v5))), ((q 13), aI K 64 (M_data (M_cd v5))), ((q 14), aZ K 32 (M_hasData (M_rd v5))), ((q 15), aI K 314 f28), ((q 16), aI K 314 (M_aside (M_ex v5))), ((q 17), aI K 314 (M_further (M_ex v5))), ((q 18), aI K 314 (M_image (M_im v5))), ((q 19), aI K 3 (M_sizeNow (M_rn v5))), ((q 20), aI K 8 (M_aloneRegister (M_al v5))), ((q 21), aI K 4 (M_aloneReal (M_al v5))), ((q 22), aI K 32 (M_aloneMemory (M_al v5))), ((q 23), aI K 999 (M_aloneOutput (M_al v5)))]) ([(0, .ref (q 0))]) ([]) 149) → ∀ (n120 : Nat) (x26 : Int32) (f27 : (Nat → Int32)), f_M_passes_L120 k120_149 n120 x26 f27 = some o_v → WW p l e rm_M_passes s m args below meth c D A 2 0 0 (MQ below (QV D K A (cl_M K q o_v)) args s 0 0 A) ([((q 0), ob 9 [.int (M_thrown v5), .ref (q 1), .int (M_taped (M_tp v5)), .ref (q 2), .ref (q 3), .ref (q 4), .ref (q 5), .ref (q 6), .ref (q 7), .ref (q 8), .ref (q 9), .ref (q 10), .ref (q 11), .ref (q 12), .ref (q 13), .ref (q 14), .int (M_lines (M_rd v5)), .int (M_size (M_rd v5)), .int (M_at (M_rd v5)), .int (M_place (M_rd v5)), .int (M_sort (M_rd v5)), .int (M_value (M_rd v5)), .int (M_fault (M_rd v5)), .int (M_faultPlace (M_rd v5)), .int (M_lastFault (M_lf v5)), .int (M_lastPlace (M_lf v5)), .ref (q 15), .ref (q 16), .ref (q 17), .ref (q 18), .int (M_hasImage (M_im v5)), .int (M_spanNow (M_rn v5)), .ref (q 19), .int (M_placeThen (M_rn v5)), .int (M_alonePlace (M_al v5)), .int (M_aloneSteps (M_al v5)), .int (M_aloneOut (M_al v5)), .ref (q 20), .ref (q 21), .ref (q 22), .ref (q 23), .int (M_shotAlarm (M_ex v5)), .int (M_drawn (M_ex v5))]), ((q 1), aI K 700 (M_tape (M_tp v5))), ((q 2), aI K 20 (M_number (M_cd v5))), ((q 3), aZ K 5 (M_isTold (M_rd v5))), ((q 4), aI K 80 (M_codeSort (M_cd v5))), ((q 5), aI K 80 (M_codeA (M_cd v5))), ((q 6), aI K 80 (M_codeB (M_cd v5))), ((q 7), aI K 80 (M_codeC (M_cd v5))), ((q 8), aI K 80 (M_codeName (M_cd v5))), ((q 9), aI K 80 (M_codePlace (M_cd v5))), ((q 10), aI K 80 (M_codeTo (M_cd v5))), ((q 11), aI K 280 (M_labelName (M_cd v5))), ((q 12), aI K 280 (M_labelAt (M_cd v5))), ((q 13), aI K 64 (M_data (M_cd v5))), ((q 14), aZ K 32 (M_hasData (M_rd v5))), ((q 15), aI K 314 f27), ((q 16), aI K 314 (M_aside (M_ex v5))), ((q 17), aI K 314 (M_further (M_ex v5))), ((q 18), aI K 314 (M_image (M_im v5))), ((q 19), aI K 3 (M_sizeNow (M_rn v5))), ((q 20), aI K 8 (M_aloneRegister (M_al v5))), ((q 21), aI K 4 (M_aloneReal (M_al v5))), ((q 22), aI K 32 (M_aloneMemory (M_al v5))), ((q 23), aI K 999 (M_aloneOutput (M_al v5)))]) ([(0, .ref (q 0)), (1, .int x26)]) ([]) 120 := by
    intro k120_149 hk120_149 n120
    induction n120 with
    | zero => intro x26 f27 hf; exact (nomatch (show (none : Option (T_M)) = some _ from hf))
    | succ n120 ih120 =>
      intro x26 f27 hf
      rw [f_M_passes_L120] at hf
      refine r_iload_n (pc := 120) cx dX10_passes_120 1 rfl ?_
      refine r_bipush (pc := 121) cx dX10_passes_121 bp_16 ?_
      refine r_icmp_ge (pc := 123) (tgt := 149) cx dX10_passes_123 (by decide) (fun h29 => ?_) (fun h29 => ?_)
      · have hf := ifp h29 hf
        refine r_loc (loc' := [(0, .ref (q 0))]) [0] rfl ?_
        exact hk120_149 _ hf
      · have hf := ifn h29 hf
        refine r_aload_n (pc := 126) cx dX10_passes_126 0 rfl ?_
        refine r_get (pc := 127) cx cf_X10 0 26 rfl (by decide) rfl wd_1342 dX10_passes_127 ?_
        refine r_bipush (pc := 130) cx dX10_passes_130 bp_30 ?_
        refine r_iload_n (pc := 132) cx dX10_passes_132 1 rfl ?_
        refine r_iadd (pc := 133) cx dX10_passes_133 ?_
        refine r_aload_n (pc := 134) cx dX10_passes_134 0 rfl ?_
        refine r_get (pc := 135) cx cf_X10 0 26 rfl (by decide) rfl wd_1342 dX10_passes_135 ?_
        refine r_iconst (pc := 138) cx dX10_passes_138 ic_4 ?_
        refine r_iload_n (pc := 139) cx dX10_passes_139 1 rfl ?_
        refine r_iadd (pc := 140) cx dX10_passes_140 ?_
        obtain ⟨h30, hf⟩ := chk_of hf
        refine r_iald (pc := 141) cx 15 rfl h30 dX10_passes_141 ?_
        obtain ⟨x31, ex31, hf⟩ := nm_of hf
        refine r_nm ex31 ?_
        obtain ⟨h32, hf⟩ := chk_of hf
        obtain ⟨f33, ef33, hf⟩ := nm_of hf
        refine r_iast (pc := 142) (ws' := [((q 0), ob 9 [.int (M_thrown v5), .ref (q 1), .int (M_taped (M_tp v5)), .ref (q 2), .ref (q 3), .ref (q 4), .ref (q 5), .ref (q 6), .ref (q 7), .ref (q 8), .ref (q 9), .ref (q 10), .ref (q 11), .ref (q 12), .ref (q 13), .ref (q 14), .int (M_lines (M_rd v5)), .int (M_size (M_rd v5)), .int (M_at (M_rd v5)), .int (M_place (M_rd v5)), .int (M_sort (M_rd v5)), .int (M_value (M_rd v5)), .int (M_fault (M_rd v5)), .int (M_faultPlace (M_rd v5)), .int (M_lastFault (M_lf v5)), .int (M_lastPlace (M_lf v5)), .ref (q 15), .ref (q 16), .ref (q 17), .ref (q 18), .int (M_hasImage (M_im v5)), .int (M_spanNow (M_rn v5)), .ref (q 19), .int (M_placeThen (M_rn v5)), .int (M_alonePlace (M_al v5)), .int (M_aloneSteps (M_al v5)), .int (M_aloneOut (M_al v5)), .ref (q 20), .ref (q 21), .ref (q 22), .ref (q 23), .int (M_shotAlarm (M_ex v5)), .int (M_drawn (M_ex v5))]), ((q 1), aI K 700 (M_tape (M_tp v5))), ((q 2), aI K 20 (M_number (M_cd v5))), ((q 3), aZ K 5 (M_isTold (M_rd v5))), ((q 4), aI K 80 (M_codeSort (M_cd v5))), ((q 5), aI K 80 (M_codeA (M_cd v5))), ((q 6), aI K 80 (M_codeB (M_cd v5))), ((q 7), aI K 80 (M_codeC (M_cd v5))), ((q 8), aI K 80 (M_codeName (M_cd v5))), ((q 9), aI K 80 (M_codePlace (M_cd v5))), ((q 10), aI K 80 (M_codeTo (M_cd v5))), ((q 11), aI K 280 (M_labelName (M_cd v5))), ((q 12), aI K 280 (M_labelAt (M_cd v5))), ((q 13), aI K 64 (M_data (M_cd v5))), ((q 14), aZ K 32 (M_hasData (M_rd v5))), ((q 15), aI K 314 f33), ((q 16), aI K 314 (M_aside (M_ex v5))), ((q 17), aI K 314 (M_further (M_ex v5))), ((q 18), aI K 314 (M_image (M_im v5))), ((q 19), aI K 3 (M_sizeNow (M_rn v5))), ((q 20), aI K 8 (M_aloneRegister (M_al v5))), ((q 21), aI K 4 (M_aloneReal (M_al v5))), ((q 22), aI K 32 (M_aloneMemory (M_al v5))), ((q 23), aI K 999 (M_aloneOutput (M_al v5)))]) cx 15 rfl h32 dX10_passes_142 ef33 rfl ?_
        obtain ⟨x34, ex34, hf⟩ := nm_of hf
        refine r_iinc (pc := 143) (loc' := [(1, .int x34), (0, .ref (q 0))]) (v := x34) cx dX10_passes_143 1 rfl ((congrArg (fun z => x26 + z) ic_1).trans ex34.symm) (by decide) rfl ?_
        refine r_goto (pc := 146) (tgt := 120) cx dX10_passes_146 (by decide) ?_
        refine r_loc (loc' := [(0, .ref (q 0)), (1, .int x34)]) [1, 0] rfl ?_
        exact ih120 _ _ hf
  refine r_loc (loc' := [(0, .ref (q 0)), (1, .int (0 : Int32))]) [1, 0] rfl ?_
  refine hL120 _ (fun f28 hf => ?_) _ _ _ hf
  refine r_iconst (pc := 149) cx dX10_passes_149 ic_0 ?_
  refine r_istore_n (pc := 150) (loc' := [(1, .int (0 : Int32)), (0, .ref (q 0))]) cx dX10_passes_150 rfl (by decide) rfl ?_
  have hL151 : ∀ (k151_181 : (Nat → Int32) → Option (T_M)), (∀ (f37 : (Nat → Int32)), k151_181 f37 = some o_v → WW p l e rm_M_passes s m args below meth c D A 2 0 0 (MQ below (QV D K A (cl_M K q o_v)) args s 0 0 A) ([((q 0), ob 9 [.int (M_thrown v5), .ref (q 1), .int (M_taped (M_tp v5)), .ref (q 2), .ref (q 3), .ref (q 4), .ref (q 5), .ref (q 6), .ref (q 7), .ref (q 8), .ref (q 9), .ref (q 10), .ref (q 11), .ref (q 12), .ref (q 13), .ref (q 14), .int (M_lines (M_rd v5)), .int (M_size (M_rd v5)), .int (M_at (M_rd v5)), .int (M_place (M_rd v5)), .int (M_sort (M_rd v5)), .int (M_value (M_rd v5)), .int (M_fault (M_rd v5)), .int (M_faultPlace (M_rd v5)), .int (M_lastFault (M_lf v5)), .int (M_lastPlace (M_lf v5)), .ref (q 15), .ref (q 16), .ref (q 17), .ref (q 18), .int (M_hasImage (M_im v5)), .int (M_spanNow (M_rn v5)), .ref (q 19), .int (M_placeThen (M_rn v5)), .int (M_alonePlace (M_al v5)), .int (M_aloneSteps (M_al v5)), .int (M_aloneOut (M_al v5)), .ref (q 20), .ref (q 21), .ref (q 22), .ref (q 23), .int (M_shotAlarm (M_ex v5)), .int (M_drawn (M_ex v5))]), ((q 1), aI K 700 (M_tape (M_tp v5))), ((q 2), aI K 20 (M_number (M_cd v5))), ((q 3), aZ K 5 (M_isTold (M_rd v5))), ((q 4), aI K 80 (M_codeSort (M_cd v5))), ((q 5), aI K 80 (M_codeA (M_cd v5))), ((q 6), aI K 80 (M_codeB (M_cd v5))), ((q 7), aI K 80 (M_codeC (M_cd v5))), ((q 8), aI K 80 (M_codeName (M_cd v5))), ((q 9), aI K 80 (M_codePlace (M_cd v5))), ((q 10), aI K 80 (M_codeTo (M_cd v5))), ((q 11), aI K 280 (M_labelName (M_cd v5))), ((q 12), aI K 280 (M_labelAt (M_cd v5))), ((q 13), aI K 64 (M_data (M_cd v5))), ((q 14), aZ K 32 (M_hasData (M_rd v5))), ((q 15), aI K 314 f37), ((q 16), aI K 314 (M_aside (M_ex v5))), ((q 17), aI K 314 (M_further (M_ex v5))), ((q 18), aI K 314 (M_image (M_im v5))), ((q 19), aI K 3 (M_sizeNow (M_rn v5))), ((q 20), aI K 8 (M_aloneRegister (M_al v5))), ((q 21), aI K 4 (M_aloneReal (M_al v5))), ((q 22), aI K 32 (M_aloneMemory (M_al v5))), ((q 23), aI K 999 (M_aloneOutput (M_al v5)))]) ([(0, .ref (q 0))]) ([]) 181) → ∀ (n151 : Nat) (x35 : Int32) (f36 : (Nat → Int32)), f_M_passes_L151 k151_181 n151 x35 f36 = some o_v → WW p l e rm_M_passes s m args below meth c D A 2 0 0 (MQ below (QV D K A (cl_M K q o_v)) args s 0 0 A) ([((q 0), ob 9 [.int (M_thrown v5), .ref (q 1), .int (M_taped (M_tp v5)), .ref (q 2), .ref (q 3), .ref (q 4), .ref (q 5), .ref (q 6), .ref (q 7), .ref (q 8), .ref (q 9), .ref (q 10), .ref (q 11), .ref (q 12), .ref (q 13), .ref (q 14), .int (M_lines (M_rd v5)), .int (M_size (M_rd v5)), .int (M_at (M_rd v5)), .int (M_place (M_rd v5)), .int (M_sort (M_rd v5)), .int (M_value (M_rd v5)), .int (M_fault (M_rd v5)), .int (M_faultPlace (M_rd v5)), .int (M_lastFault (M_lf v5)), .int (M_lastPlace (M_lf v5)), .ref (q 15), .ref (q 16), .ref (q 17), .ref (q 18), .int (M_hasImage (M_im v5)), .int (M_spanNow (M_rn v5)), .ref (q 19), .int (M_placeThen (M_rn v5)), .int (M_alonePlace (M_al v5)), .int (M_aloneSteps (M_al v5)), .int (M_aloneOut (M_al v5)), .ref (q 20), .ref (q 21), .ref (q 22), .ref (q 23), .int (M_shotAlarm (M_ex v5)), .int (M_drawn (M_ex v5))]), ((q 1), aI K 700 (M_tape (M_tp v5))), ((q 2), aI K 20 (M_number (M_cd v5))), ((q 3), aZ K 5 (M_isTold (M_rd v5))), ((q 4), aI K 80 (M_codeSort (M_cd v5))), ((q 5), aI K 80 (M_codeA (M_cd v5))), ((q 6), aI K 80 (M_codeB (M_cd v5))), ((q 7), aI K 80 (M_codeC (M_cd v5))), ((q 8), aI K 80 (M_codeName (M_cd v5))), ((q 9), aI K 80 (M_codePlace (M_cd v5))), ((q 10), aI K 80 (M_codeTo (M_cd v5))), ((q 11), aI K 280 (M_labelName (M_cd v5))), ((q 12), aI K 280 (M_labelAt (M_cd v5))), ((q 13), aI K 64 (M_data (M_cd v5))), ((q 14), aZ K 32 (M_hasData (M_rd v5))), ((q 15), aI K 314 f36), ((q 16), aI K 314 (M_aside (M_ex v5))), ((q 17), aI K 314 (M_further (M_ex v5))), ((q 18), aI K 314 (M_image (M_im v5))), ((q 19), aI K 3 (M_sizeNow (M_rn v5))), ((q 20), aI K 8 (M_aloneRegister (M_al v5))), ((q 21), aI K 4 (M_aloneReal (M_al v5))), ((q 22), aI K 32 (M_aloneMemory (M_al v5))), ((q 23), aI K 999 (M_aloneOutput (M_al v5)))]) ([(0, .ref (q 0)), (1, .int x35)]) ([]) 151 := by
    intro k151_181 hk151_181 n151
    induction n151 with
    | zero => intro x35 f36 hf; exact (nomatch (show (none : Option (T_M)) = some _ from hf))
    | succ n151 ih151 =>
      intro x35 f36 hf
      rw [f_M_passes_L151] at hf
      refine r_iload_n (pc := 151) cx dX10_passes_151 1 rfl ?_
      refine r_bipush (pc := 152) cx dX10_passes_152 bp_8 ?_
      refine r_icmp_ge (pc := 154) (tgt := 181) cx dX10_passes_154 (by decide) (fun h38 => ?_) (fun h38 => ?_)
      · have hf := ifp h38 hf
        refine r_loc (loc' := [(0, .ref (q 0))]) [0] rfl ?_
        exact hk151_181 _ hf
      · have hf := ifn h38 hf
        refine r_aload_n (pc := 157) cx dX10_passes_157 0 rfl ?_
        refine r_get (pc := 158) cx cf_X10 0 26 rfl (by decide) rfl wd_1342 dX10_passes_158 ?_
        refine r_bipush (pc := 161) cx dX10_passes_161 bp_46 ?_
        refine r_iload_n (pc := 163) cx dX10_passes_163 1 rfl ?_
        refine r_iadd (pc := 164) cx dX10_passes_164 ?_
        refine r_aload_n (pc := 165) cx dX10_passes_165 0 rfl ?_
        refine r_get (pc := 166) cx cf_X10 0 26 rfl (by decide) rfl wd_1342 dX10_passes_166 ?_
        refine r_bipush (pc := 169) cx dX10_passes_169 bp_20 ?_
        refine r_iload_n (pc := 171) cx dX10_passes_171 1 rfl ?_
        refine r_iadd (pc := 172) cx dX10_passes_172 ?_
        obtain ⟨h39, hf⟩ := chk_of hf
        refine r_iald (pc := 173) cx 15 rfl h39 dX10_passes_173 ?_
        obtain ⟨x40, ex40, hf⟩ := nm_of hf
        refine r_nm ex40 ?_
        obtain ⟨h41, hf⟩ := chk_of hf
        obtain ⟨f42, ef42, hf⟩ := nm_of hf
        refine r_iast (pc := 174) (ws' := [((q 0), ob 9 [.int (M_thrown v5), .ref (q 1), .int (M_taped (M_tp v5)), .ref (q 2), .ref (q 3), .ref (q 4), .ref (q 5), .ref (q 6), .ref (q 7), .ref (q 8), .ref (q 9), .ref (q 10), .ref (q 11), .ref (q 12), .ref (q 13), .ref (q 14), .int (M_lines (M_rd v5)), .int (M_size (M_rd v5)), .int (M_at (M_rd v5)), .int (M_place (M_rd v5)), .int (M_sort (M_rd v5)), .int (M_value (M_rd v5)), .int (M_fault (M_rd v5)), .int (M_faultPlace (M_rd v5)), .int (M_lastFault (M_lf v5)), .int (M_lastPlace (M_lf v5)), .ref (q 15), .ref (q 16), .ref (q 17), .ref (q 18), .int (M_hasImage (M_im v5)), .int (M_spanNow (M_rn v5)), .ref (q 19), .int (M_placeThen (M_rn v5)), .int (M_alonePlace (M_al v5)), .int (M_aloneSteps (M_al v5)), .int (M_aloneOut (M_al v5)), .ref (q 20), .ref (q 21), .ref (q 22), .ref (q 23), .int (M_shotAlarm (M_ex v5)), .int (M_drawn (M_ex v5))]), ((q 1), aI K 700 (M_tape (M_tp v5))), ((q 2), aI K 20 (M_number (M_cd v5))), ((q 3), aZ K 5 (M_isTold (M_rd v5))), ((q 4), aI K 80 (M_codeSort (M_cd v5))), ((q 5), aI K 80 (M_codeA (M_cd v5))), ((q 6), aI K 80 (M_codeB (M_cd v5))), ((q 7), aI K 80 (M_codeC (M_cd v5))), ((q 8), aI K 80 (M_codeName (M_cd v5))), ((q 9), aI K 80 (M_codePlace (M_cd v5))), ((q 10), aI K 80 (M_codeTo (M_cd v5))), ((q 11), aI K 280 (M_labelName (M_cd v5))), ((q 12), aI K 280 (M_labelAt (M_cd v5))), ((q 13), aI K 64 (M_data (M_cd v5))), ((q 14), aZ K 32 (M_hasData (M_rd v5))), ((q 15), aI K 314 f42), ((q 16), aI K 314 (M_aside (M_ex v5))), ((q 17), aI K 314 (M_further (M_ex v5))), ((q 18), aI K 314 (M_image (M_im v5))), ((q 19), aI K 3 (M_sizeNow (M_rn v5))), ((q 20), aI K 8 (M_aloneRegister (M_al v5))), ((q 21), aI K 4 (M_aloneReal (M_al v5))), ((q 22), aI K 32 (M_aloneMemory (M_al v5))), ((q 23), aI K 999 (M_aloneOutput (M_al v5)))]) cx 15 rfl h41 dX10_passes_174 ef42 rfl ?_
        obtain ⟨x43, ex43, hf⟩ := nm_of hf
        refine r_iinc (pc := 175) (loc' := [(1, .int x43), (0, .ref (q 0))]) (v := x43) cx dX10_passes_175 1 rfl ((congrArg (fun z => x35 + z) ic_1).trans ex43.symm) (by decide) rfl ?_
        refine r_goto (pc := 178) (tgt := 151) cx dX10_passes_178 (by decide) ?_
        refine r_loc (loc' := [(0, .ref (q 0)), (1, .int x43)]) [1, 0] rfl ?_
        exact ih151 _ _ hf
  refine r_loc (loc' := [(0, .ref (q 0)), (1, .int (0 : Int32))]) [1, 0] rfl ?_
  refine hL151 _ (fun f37 hf => ?_) _ _ _ hf
  refine r_aload_n (pc := 181) cx dX10_passes_181 0 rfl ?_
  obtain ⟨v44, hc45, hf⟩ := bd_of hf
  refine r_Vv (pc := 182) (ws' := [((q 0), ob 9 [.int (M_thrown v44), .ref (q 1), .int (M_taped (M_tp v44)), .ref (q 2), .ref (q 3), .ref (q 4), .ref (q 5), .ref (q 6), .ref (q 7), .ref (q 8), .ref (q 9), .ref (q 10), .ref (q 11), .ref (q 12), .ref (q 13), .ref (q 14), .int (M_lines (M_rd v44)), .int (M_size (M_rd v44)), .int (M_at (M_rd v44)), .int (M_place (M_rd v44)), .int (M_sort (M_rd v44)), .int (M_value (M_rd v44)), .int (M_fault (M_rd v44)), .int (M_faultPlace (M_rd v44)), .int (M_lastFault (M_lf v44)), .int (M_lastPlace (M_lf v44)), .ref (q 15), .ref (q 16), .ref (q 17), .ref (q 18), .int (M_hasImage (M_im v44)), .int (M_spanNow (M_rn v44)), .ref (q 19), .int (M_placeThen (M_rn v44)), .int (M_alonePlace (M_al v44)), .int (M_aloneSteps (M_al v44)), .int (M_aloneOut (M_al v44)), .ref (q 20), .ref (q 21), .ref (q 22), .ref (q 23), .int (M_shotAlarm (M_ex v44)), .int (M_drawn (M_ex v44))]), ((q 1), aI K 700 (M_tape (M_tp v44))), ((q 2), aI K 20 (M_number (M_cd v44))), ((q 3), aZ K 5 (M_isTold (M_rd v44))), ((q 4), aI K 80 (M_codeSort (M_cd v44))), ((q 5), aI K 80 (M_codeA (M_cd v44))), ((q 6), aI K 80 (M_codeB (M_cd v44))), ((q 7), aI K 80 (M_codeC (M_cd v44))), ((q 8), aI K 80 (M_codeName (M_cd v44))), ((q 9), aI K 80 (M_codePlace (M_cd v44))), ((q 10), aI K 80 (M_codeTo (M_cd v44))), ((q 11), aI K 280 (M_labelName (M_cd v44))), ((q 12), aI K 280 (M_labelAt (M_cd v44))), ((q 13), aI K 64 (M_data (M_cd v44))), ((q 14), aZ K 32 (M_hasData (M_rd v44))), ((q 15), aI K 314 (M_s (M_rn v44))), ((q 16), aI K 314 (M_aside (M_ex v44))), ((q 17), aI K 314 (M_further (M_ex v44))), ((q 18), aI K 314 (M_image (M_im v44))), ((q 19), aI K 3 (M_sizeNow (M_rn v44))), ((q 20), aI K 8 (M_aloneRegister (M_al v44))), ((q 21), aI K 4 (M_aloneReal (M_al v44))), ((q 22), aI K 32 (M_aloneMemory (M_al v44))), ((q 23), aI K 999 (M_aloneOutput (M_al v44)))]) cx [] [] [0, 1, 2, 3, 4, 5, 6, 7, 8, 9, 10, 11, 12, 13, 14, 15, 16, 17, 18, 19, 20, 21, 22, 23] (m_M_empties l D K q ((M_tp v5), (M_rd v5), (M_lf v5), (M_cd v5), (f37, (M_spanNow (M_rn v5)), (M_sizeNow (M_rn v5)), (M_placeThen (M_rn v5))), (M_ex v5), (M_im v5), (M_al v5), (M_thrown v5)) hc45) yv_X10_empties wd_1687 ⟨rfl, rfl⟩ (by decide) rfl rfl rfl (by decide) 0 rfl rfl rfl (Nat.le_of_ble_eq_true rfl) dX10_passes_182 ?_
  refine r_aload_n (pc := 185) cx dX10_passes_185 0 rfl ?_
  refine r_iconst (pc := 186) cx dX10_passes_186 ic_0 ?_
  obtain ⟨r46, hc47, hf⟩ := bd_of hf
  refine r_Vi (pc := 187) (ws' := [((q 0), ob 9 [.int (M_thrown v44), .ref (q 1), .int (M_taped (M_tp v44)), .ref (q 2), .ref (q 3), .ref (q 4), .ref (q 5), .ref (q 6), .ref (q 7), .ref (q 8), .ref (q 9), .ref (q 10), .ref (q 11), .ref (q 12), .ref (q 13), .ref (q 14), .int (M_lines (M_rd v44)), .int (M_size (M_rd v44)), .int (M_at (M_rd v44)), .int (M_place (M_rd v44)), .int (M_sort (M_rd v44)), .int (M_value (M_rd v44)), .int (M_fault (M_rd v44)), .int (M_faultPlace (M_rd v44)), .int (M_lastFault (M_lf v44)), .int (M_lastPlace (M_lf v44)), .ref (q 15), .ref (q 16), .ref (q 17), .ref (q 18), .int (M_hasImage (M_im v44)), .int (M_spanNow (M_rn v44)), .ref (q 19), .int (M_placeThen (M_rn v44)), .int (M_alonePlace (M_al v44)), .int (M_aloneSteps (M_al v44)), .int (M_aloneOut (M_al v44)), .ref (q 20), .ref (q 21), .ref (q 22), .ref (q 23), .int (M_shotAlarm (M_ex v44)), .int (M_drawn (M_ex v44))]), ((q 1), aI K 700 (M_tape (M_tp v44))), ((q 2), aI K 20 (M_number (M_cd v44))), ((q 3), aZ K 5 (M_isTold (M_rd v44))), ((q 4), aI K 80 (M_codeSort (M_cd v44))), ((q 5), aI K 80 (M_codeA (M_cd v44))), ((q 6), aI K 80 (M_codeB (M_cd v44))), ((q 7), aI K 80 (M_codeC (M_cd v44))), ((q 8), aI K 80 (M_codeName (M_cd v44))), ((q 9), aI K 80 (M_codePlace (M_cd v44))), ((q 10), aI K 80 (M_codeTo (M_cd v44))), ((q 11), aI K 280 (M_labelName (M_cd v44))), ((q 12), aI K 280 (M_labelAt (M_cd v44))), ((q 13), aI K 64 (M_data (M_cd v44))), ((q 14), aZ K 32 (M_hasData (M_rd v44))), ((q 15), aI K 314 (M_s (M_rn v44))), ((q 16), aI K 314 (M_aside (M_ex v44))), ((q 17), aI K 314 (M_further (M_ex v44))), ((q 18), aI K 314 (M_image (M_im v44))), ((q 19), aI K 3 (M_sizeNow (M_rn v44))), ((q 20), aI K 8 (M_aloneRegister (M_al v44))), ((q 21), aI K 4 (M_aloneReal (M_al v44))), ((q 22), aI K 32 (M_aloneMemory (M_al v44))), ((q 23), aI K 999 (M_aloneOutput (M_al v44)))]) cx [.int (0 : Int32)] [] [0, 1, 2, 3, 4, 5, 6, 7, 8, 9, 10, 11, 12, 13, 14, 15, 16, 17, 18, 19, 20, 21, 22, 23] (m_M_isHalted l D K q v44 (0 : Int32) hc47) yv_X10_isHalted wd_1580 ⟨rfl, rfl⟩ (by decide) rfl rfl rfl (by decide) 0 rfl rfl rfl (Nat.le_of_ble_eq_true rfl) dX10_passes_187 ?_
  refine r_if_eq (pc := 190) (tgt := 210) cx dX10_passes_190 (by decide) (fun h48 => ?_) (fun h48 => ?_)
  · have hf := ifp h48 hf
    cases hf
    exact r_vret (pc := 210) cx rfl dX10_passes_210
  · have hf := ifn h48 hf
    refine r_aload_n (pc := 193) cx dX10_passes_193 0 rfl ?_
    refine r_iconst (pc := 194) cx dX10_passes_194 ic_1 ?_
    obtain ⟨r49, hc50, hf⟩ := bd_of hf
    refine r_Vi (pc := 195) (ws' := [((q 0), ob 9 [.int (M_thrown v44), .ref (q 1), .int (M_taped (M_tp v44)), .ref (q 2), .ref (q 3), .ref (q 4), .ref (q 5), .ref (q 6), .ref (q 7), .ref (q 8), .ref (q 9), .ref (q 10), .ref (q 11), .ref (q 12), .ref (q 13), .ref (q 14), .int (M_lines (M_rd v44)), .int (M_size (M_rd v44)), .int (M_at (M_rd v44)), .int (M_place (M_rd v44)), .int (M_sort (M_rd v44)), .int (M_value (M_rd v44)), .int (M_fault (M_rd v44)), .int (M_faultPlace (M_rd v44)), .int (M_lastFault (M_lf v44)), .int (M_lastPlace (M_lf v44)), .ref (q 15), .ref (q 16), .ref (q 17), .ref (q 18), .int (M_hasImage (M_im v44)), .int (M_spanNow (M_rn v44)), .ref (q 19), .int (M_placeThen (M_rn v44)), .int (M_alonePlace (M_al v44)), .int (M_aloneSteps (M_al v44)), .int (M_aloneOut (M_al v44)), .ref (q 20), .ref (q 21), .ref (q 22), .ref (q 23), .int (M_shotAlarm (M_ex v44)), .int (M_drawn (M_ex v44))]), ((q 1), aI K 700 (M_tape (M_tp v44))), ((q 2), aI K 20 (M_number (M_cd v44))), ((q 3), aZ K 5 (M_isTold (M_rd v44))), ((q 4), aI K 80 (M_codeSort (M_cd v44))), ((q 5), aI K 80 (M_codeA (M_cd v44))), ((q 6), aI K 80 (M_codeB (M_cd v44))), ((q 7), aI K 80 (M_codeC (M_cd v44))), ((q 8), aI K 80 (M_codeName (M_cd v44))), ((q 9), aI K 80 (M_codePlace (M_cd v44))), ((q 10), aI K 80 (M_codeTo (M_cd v44))), ((q 11), aI K 280 (M_labelName (M_cd v44))), ((q 12), aI K 280 (M_labelAt (M_cd v44))), ((q 13), aI K 64 (M_data (M_cd v44))), ((q 14), aZ K 32 (M_hasData (M_rd v44))), ((q 15), aI K 314 (M_s (M_rn v44))), ((q 16), aI K 314 (M_aside (M_ex v44))), ((q 17), aI K 314 (M_further (M_ex v44))), ((q 18), aI K 314 (M_image (M_im v44))), ((q 19), aI K 3 (M_sizeNow (M_rn v44))), ((q 20), aI K 8 (M_aloneRegister (M_al v44))), ((q 21), aI K 4 (M_aloneReal (M_al v44))), ((q 22), aI K 32 (M_aloneMemory (M_al v44))), ((q 23), aI K 999 (M_aloneOutput (M_al v44)))]) cx [.int (1 : Int32)] [] [0, 1, 2, 3, 4, 5, 6, 7, 8, 9, 10, 11, 12, 13, 14, 15, 16, 17, 18, 19, 20, 21, 22, 23] (m_M_isHalted l D K q v44 (1 : Int32) hc50) yv_X10_isHalted wd_1580 ⟨rfl, rfl⟩ (by decide) rfl rfl rfl (by decide) 0 rfl rfl rfl (Nat.le_of_ble_eq_true rfl) dX10_passes_195 ?_
    refine r_if_eq (pc := 198) (tgt := 210) cx dX10_passes_198 (by decide) (fun h51 => ?_) (fun h51 => ?_)
    · have hf := ifp h51 hf
      cases hf
      exact r_vret (pc := 210) cx rfl dX10_passes_210
    · have hf := ifn h51 hf
      refine r_aload_n (pc := 201) cx dX10_passes_201 0 rfl ?_
      refine r_get (pc := 202) cx cf_X10 0 26 rfl (by decide) rfl wd_1342 dX10_passes_202 ?_
      refine r_sipush (pc := 205) cx dX10_passes_205 sp_226 ?_
      refine r_iconst (pc := 208) cx dX10_passes_208 ic_1 ?_
      obtain ⟨f52, ef52, hf⟩ := nm_of hf
      refine r_iast (pc := 209) (ws' := [((q 0), ob 9 [.int (M_thrown v44), .ref (q 1), .int (M_taped (M_tp v44)), .ref (q 2), .ref (q 3), .ref (q 4), .ref (q 5), .ref (q 6), .ref (q 7), .ref (q 8), .ref (q 9), .ref (q 10), .ref (q 11), .ref (q 12), .ref (q 13), .ref (q 14), .int (M_lines (M_rd v44)), .int (M_size (M_rd v44)), .int (M_at (M_rd v44)), .int (M_place (M_rd v44)), .int (M_sort (M_rd v44)), .int (M_value (M_rd v44)), .int (M_fault (M_rd v44)), .int (M_faultPlace (M_rd v44)), .int (M_lastFault (M_lf v44)), .int (M_lastPlace (M_lf v44)), .ref (q 15), .ref (q 16), .ref (q 17), .ref (q 18), .int (M_hasImage (M_im v44)), .int (M_spanNow (M_rn v44)), .ref (q 19), .int (M_placeThen (M_rn v44)), .int (M_alonePlace (M_al v44)), .int (M_aloneSteps (M_al v44)), .int (M_aloneOut (M_al v44)), .ref (q 20), .ref (q 21), .ref (q 22), .ref (q 23), .int (M_shotAlarm (M_ex v44)), .int (M_drawn (M_ex v44))]), ((q 1), aI K 700 (M_tape (M_tp v44))), ((q 2), aI K 20 (M_number (M_cd v44))), ((q 3), aZ K 5 (M_isTold (M_rd v44))), ((q 4), aI K 80 (M_codeSort (M_cd v44))), ((q 5), aI K 80 (M_codeA (M_cd v44))), ((q 6), aI K 80 (M_codeB (M_cd v44))), ((q 7), aI K 80 (M_codeC (M_cd v44))), ((q 8), aI K 80 (M_codeName (M_cd v44))), ((q 9), aI K 80 (M_codePlace (M_cd v44))), ((q 10), aI K 80 (M_codeTo (M_cd v44))), ((q 11), aI K 280 (M_labelName (M_cd v44))), ((q 12), aI K 280 (M_labelAt (M_cd v44))), ((q 13), aI K 64 (M_data (M_cd v44))), ((q 14), aZ K 32 (M_hasData (M_rd v44))), ((q 15), aI K 314 f52), ((q 16), aI K 314 (M_aside (M_ex v44))), ((q 17), aI K 314 (M_further (M_ex v44))), ((q 18), aI K 314 (M_image (M_im v44))), ((q 19), aI K 3 (M_sizeNow (M_rn v44))), ((q 20), aI K 8 (M_aloneRegister (M_al v44))), ((q 21), aI K 4 (M_aloneReal (M_al v44))), ((q 22), aI K 32 (M_aloneMemory (M_al v44))), ((q 23), aI K 999 (M_aloneOutput (M_al v44)))]) cx 15 rfl (by decide) dX10_passes_209 ef52 rfl ?_
      cases hf
      exact r_vret (pc := 210) cx rfl dX10_passes_210
theorem yv_X10_passes : YV yX10_passes cX10_passes 2 (none) 0 := ⟨⟨by decide +kernel, by decide +kernel, by decide +kernel⟩, wd_1678, wd_102, wd_1677, wd_69⟩
def f_M_alarms_L4  (k4_40 : (Nat → Int32) → Option (T_M)) : Nat → Int32 → (Nat → Int32) → Option (T_M)
  | 0, _, _ => none
  | n4 + 1, x1, f2 =>
    (if x1 < (4 : Int32) then (k4_40 f2) else (if ix (((233 : Int32) + x1) - (4 : Int32)) 314 then (nm (f2 ((((233 : Int32) + x1) - (4 : Int32))).toNatClampNeg) fun (x6 : Int32) => (if ix ((233 : Int32) + x1) 314 then (nm (upd f2 (((233 : Int32) + x1)).toNatClampNeg x6) fun (f8 : Nat → Int32) => (nm (x1 + (-1 : Int32)) fun (x9 : Int32) => (f_M_alarms_L4 k4_40 n4 x9 f8))) else none)) else none))
def f_M_alarms_L110  (k110_151 : (Nat → Int32) → Option (T_M)) : Nat → Int32 → (Nat → Int32) → Option (T_M)
  | 0, _, _ => none
  | n110 + 1, x19, f20 =>
    (if (2 : Int32) ≤ x19 then (k110_151 f20) else (if ix ((28 : Int32) + x19) 314 then (nm (f20 (((28 : Int32) + x19)).toNatClampNeg) fun (x24 : Int32) => (if ix ((0 : Int32) + x19) 314 then (nm (upd f20 (((0 : Int32) + x19)).toNatClampNeg x24) fun (f26 : Nat → Int32) => (if ix ((2 : Int32) + x19) 314 then (nm (upd f26 (((2 : Int32) + x19)).toNatClampNeg (0 : Int32)) fun (f28 : Nat → Int32) => (nm (x19 + (1 : Int32)) fun (x29 : Int32) => (f_M_alarms_L110 k110_151 n110 x29 f28))) else none)) else none)) else none))
def f_M_alarms_L154  (k154_186 : (Nat → Int32) → Option (T_M)) : Nat → Int32 → (Nat → Int32) → Option (T_M)
  | 0, _, _ => none
  | n154 + 1, x30, f31 =>
    (if (16 : Int32) ≤ x30 then (k154_186 f31) else (if ix ((30 : Int32) + x30) 314 then (nm (f31 (((30 : Int32) + x30)).toNatClampNeg) fun (x35 : Int32) => (if ix ((4 : Int32) + x30) 314 then (nm (upd f31 (((4 : Int32) + x30)).toNatClampNeg x35) fun (f37 : Nat → Int32) => (nm (x30 + (1 : Int32)) fun (x38 : Int32) => (f_M_alarms_L154 k154_186 n154 x38 f37))) else none)) else none))
def f_M_alarms_L189  (k189_222 : (Nat → Int32) → Option (T_M)) : Nat → Int32 → (Nat → Int32) → Option (T_M)
  | 0, _, _ => none
  | n189 + 1, x39, f40 =>
    (if (8 : Int32) ≤ x39 then (k189_222 f40) else (if ix ((46 : Int32) + x39) 314 then (nm (f40 (((46 : Int32) + x39)).toNatClampNeg) fun (x44 : Int32) => (if ix ((20 : Int32) + x39) 314 then (nm (upd f40 (((20 : Int32) + x39)).toNatClampNeg x44) fun (f46 : Nat → Int32) => (nm (x39 + (1 : Int32)) fun (x47 : Int32) => (f_M_alarms_L189 k189_222 n189 x47 f46))) else none)) else none))
def f_M_alarms (v : T_M) (a1 : Int32) (a2 : Int32) (a3 : Int32) : Option (T_M) :=
  (f_M_alarms_L4 (fun (f3 : (Nat → Int32)) => (nm (upd f3 (233 : Int32).toNatClampNeg a1) fun (f10 : Nat → Int32) => (nm (f10 (219 : Int32).toNatClampNeg) fun (x11 : Int32) => (nm (upd f10 (234 : Int32).toNatClampNeg x11) fun (f12 : Nat → Int32) => (nm (upd f12 (235 : Int32).toNatClampNeg a2) fun (f13 : Nat → Int32) => (nm (upd f13 (236 : Int32).toNatClampNeg a3) fun (f14 : Nat → Int32) => (nm ((f14 (221 : Int32).toNatClampNeg) + (1 : Int32)) fun (x15 : Int32) => (nm (upd f14 (221 : Int32).toNatClampNeg x15) fun (f16 : Nat → Int32) => (nm ((f16 (222 : Int32).toNatClampNeg) + (1 : Int32)) fun (x17 : Int32) => (nm (upd f16 (222 : Int32).toNatClampNeg x17) fun (f18 : Nat → Int32) => (f_M_alarms_L110 (fun (f21 : (Nat → Int32)) => (f_M_alarms_L154 (fun (f32 : (Nat → Int32)) => (f_M_alarms_L189 (fun (f41 : (Nat → Int32)) => (bd (f_M_empties ((M_tp v), (M_rd v), (M_lf v), (M_cd v), (f41, (M_spanNow (M_rn v)), (M_sizeNow (M_rn v)), (M_placeThen (M_rn v))), (M_ex v), (M_im v), (M_al v), (M_thrown v))) fun (v48 : T_M) => (bd (f_M_sticks v48) fun (v50 : T_M) => (if ((M_s (M_rn v50)) (222 : Int32).toNatClampNeg) = ((M_number (M_cd v50)) (6 : Int32).toNatClampNeg) then (nm (upd (M_s (M_rn v50)) (227 : Int32).toNatClampNeg (1 : Int32)) fun (f53 : Nat → Int32) => (some ((M_tp v50), (M_rd v50), (M_lf v50), (M_cd v50), (f53, (M_spanNow (M_rn v50)), (M_sizeNow (M_rn v50)), (M_placeThen (M_rn v50))), (M_ex v50), (M_im v50), (M_al v50), (M_thrown v50)))) else (some v50))))) LF (0 : Int32) f32)) LF (0 : Int32) f21)) LF (0 : Int32) f18))))))))))) LF (31 : Int32) (M_s (M_rn v)))
abbrev rm_M_alarms : Room := { frames := 1, cells := 0, slots := 0, locals := 21 }
set_option maxRecDepth 100000 in
set_option maxHeartbeats 4000000 in
theorem m_M_alarms (l : Launch) (D : va_G) (K : Nat → ClassId) (q : Nat → Nat) (v : T_M) (a1 : Int32) (a2 : Int32) (a3 : Int32) {o_v : T_M} (hf : f_M_alarms v a1 a2 a3 = some o_v) : MV l yX10_alarms cX10_alarms 5 (none) rm_M_alarms D K [.ref (q 0), .int a1, .int a2, .int a3] (cl_M K q v) (cl_M K q o_v) := by
  refine MV_of (loc0 := [(0, .ref (q 0)), (1, .int a1), (2, .int a2), (3, .int a3)]) (by decide +kernel) rfl (Nat.le_of_ble_eq_true rfl) ?_
  intro p e s m args below meth c A cx
  unfold f_M_alarms at hf
  refine r_ws (ws' := [((q 0), ob 9 [.int (M_thrown v), .ref (q 1), .int (M_taped (M_tp v)), .ref (q 2), .ref (q 3), .ref (q 4), .ref (q 5), .ref (q 6), .ref (q 7), .ref (q 8), .ref (q 9), .ref (q 10), .ref (q 11), .ref (q 12), .ref (q 13), .ref (q 14), .int (M_lines (M_rd v)), .int (M_size (M_rd v)), .int (M_at (M_rd v)), .int (M_place (M_rd v)), .int (M_sort (M_rd v)), .int (M_value (M_rd v)), .int (M_fault (M_rd v)), .int (M_faultPlace (M_rd v)), .int (M_lastFault (M_lf v)), .int (M_lastPlace (M_lf v)), .ref (q 15), .ref (q 16), .ref (q 17), .ref (q 18), .int (M_hasImage (M_im v)), .int (M_spanNow (M_rn v)), .ref (q 19), .int (M_placeThen (M_rn v)), .int (M_alonePlace (M_al v)), .int (M_aloneSteps (M_al v)), .int (M_aloneOut (M_al v)), .ref (q 20), .ref (q 21), .ref (q 22), .ref (q 23), .int (M_shotAlarm (M_ex v)), .int (M_drawn (M_ex v))]), ((q 1), aI K 700 (M_tape (M_tp v))), ((q 2), aI K 20 (M_number (M_cd v))), ((q 3), aZ K 5 (M_isTold (M_rd v))), ((q 4), aI K 80 (M_codeSort (M_cd v))), ((q 5), aI K 80 (M_codeA (M_cd v))), ((q 6), aI K 80 (M_codeB (M_cd v))), ((q 7), aI K 80 (M_codeC (M_cd v))), ((q 8), aI K 80 (M_codeName (M_cd v))), ((q 9), aI K 80 (M_codePlace (M_cd v))), ((q 10), aI K 80 (M_codeTo (M_cd v))), ((q 11), aI K 280 (M_labelName (M_cd v))), ((q 12), aI K 280 (M_labelAt (M_cd v))), ((q 13), aI K 64 (M_data (M_cd v))), ((q 14), aZ K 32 (M_hasData (M_rd v))), ((q 15), aI K 314 (M_s (M_rn v))), ((q 16), aI K 314 (M_aside (M_ex v))), ((q 17), aI K 314 (M_further (M_ex v))), ((q 18), aI K 314 (M_image (M_im v))), ((q 19), aI K 3 (M_sizeNow (M_rn v))), ((q 20), aI K 8 (M_aloneRegister (M_al v))), ((q 21), aI K 4 (M_aloneReal (M_al v))), ((q 22), aI K 32 (M_aloneMemory (M_al v))), ((q 23), aI K 999 (M_aloneOutput (M_al v)))]) rfl ?_
  refine r_bipush (pc := 0) cx dX10_alarms_0 bp_31 ?_
  refine r_istore (pc := 2) (loc' := [(4, .int (31 : Int32)), (0, .ref (q 0)), (1, .int a1), (2, .int a2), (3, .int a3)]) cx dX10_alarms_2 (by decide) rfl ?_
  have hL4 : ∀ (k4_40 : (Nat → Int32) → Option (T_M)), (∀ (f3 : (Nat → Int32)), k4_40 f3 = some o_v → WW p l e rm_M_alarms s m args below meth c D A 5 0 0 (MQ below (QV D K A (cl_M K q o_v)) args s 0 0 A) ([((q 0), ob 9 [.int (M_thrown v), .ref (q 1), .int (M_taped (M_tp v)), .ref (q 2), .ref (q 3), .ref (q 4), .ref (q 5), .ref (q 6), .ref (q 7), .ref (q 8), .ref (q 9), .ref (q 10), .ref (q 11), .ref (q 12), .ref (q 13), .ref (q 14), .int (M_lines (M_rd v)), .int (M_size (M_rd v)), .int (M_at (M_rd v)), .int (M_place (M_rd v)), .int (M_sort (M_rd v)), .int (M_value (M_rd v)), .int (M_fault (M_rd v)), .int (M_faultPlace (M_rd v)), .int (M_lastFault (M_lf v)), .int (M_lastPlace (M_lf v)), .ref (q 15), .ref (q 16), .ref (q 17), .ref (q 18), .int (M_hasImage (M_im v)), .int (M_spanNow (M_rn v)), .ref (q 19), .int (M_placeThen (M_rn v)), .int (M_alonePlace (M_al v)), .int (M_aloneSteps (M_al v)), .int (M_aloneOut (M_al v)), .ref (q 20), .ref (q 21), .ref (q 22), .ref (q 23), .int (M_shotAlarm (M_ex v)), .int (M_drawn (M_ex v))]), ((q 1), aI K 700 (M_tape (M_tp v))), ((q 2), aI K 20 (M_number (M_cd v))), ((q 3), aZ K 5 (M_isTold (M_rd v))), ((q 4), aI K 80 (M_codeSort (M_cd v))), ((q 5), aI K 80 (M_codeA (M_cd v))), ((q 6), aI K 80 (M_codeB (M_cd v))), ((q 7), aI K 80 (M_codeC (M_cd v))), ((q 8), aI K 80 (M_codeName (M_cd v))), ((q 9), aI K 80 (M_codePlace (M_cd v))), ((q 10), aI K 80 (M_codeTo (M_cd v))), ((q 11), aI K 280 (M_labelName (M_cd v))), ((q 12), aI K 280 (M_labelAt (M_cd v))), ((q 13), aI K 64 (M_data (M_cd v))), ((q 14), aZ K 32 (M_hasData (M_rd v))), ((q 15), aI K 314 f3), ((q 16), aI K 314 (M_aside (M_ex v))), ((q 17), aI K 314 (M_further (M_ex v))), ((q 18), aI K 314 (M_image (M_im v))), ((q 19), aI K 3 (M_sizeNow (M_rn v))), ((q 20), aI K 8 (M_aloneRegister (M_al v))), ((q 21), aI K 4 (M_aloneReal (M_al v))), ((q 22), aI K 32 (M_aloneMemory (M_al v))), ((q 23), aI K 999 (M_aloneOutput (M_al v)))]) ([(0, .ref (q 0)), (1, .int a1), (2, .int a2), (3, .int a3)]) ([]) 40) → ∀ (n4 : Nat) (x1 : Int32) (f2 : (Nat → Int32)), f_M_alarms_L4 k4_40 n4 x1 f2 = some o_v → WW p l e rm_M_alarms s m args below meth c D A 5 0 0 (MQ below (QV D K A (cl_M K q o_v)) args s 0 0 A) ([((q 0), ob 9 [.int (M_thrown v), .ref (q 1), .int (M_taped (M_tp v)), .ref (q 2), .ref (q 3), .ref (q 4), .ref (q 5), .ref (q 6), .ref (q 7), .ref (q 8), .ref (q 9), .ref (q 10), .ref (q 11), .ref (q 12), .ref (q 13), .ref (q 14), .int (M_lines (M_rd v)), .int (M_size (M_rd v)), .int (M_at (M_rd v)), .int (M_place (M_rd v)), .int (M_sort (M_rd v)), .int (M_value (M_rd v)), .int (M_fault (M_rd v)), .int (M_faultPlace (M_rd v)), .int (M_lastFault (M_lf v)), .int (M_lastPlace (M_lf v)), .ref (q 15), .ref (q 16), .ref (q 17), .ref (q 18), .int (M_hasImage (M_im v)), .int (M_spanNow (M_rn v)), .ref (q 19), .int (M_placeThen (M_rn v)), .int (M_alonePlace (M_al v)), .int (M_aloneSteps (M_al v)), .int (M_aloneOut (M_al v)), .ref (q 20), .ref (q 21), .ref (q 22), .ref (q 23), .int (M_shotAlarm (M_ex v)), .int (M_drawn (M_ex v))]), ((q 1), aI K 700 (M_tape (M_tp v))), ((q 2), aI K 20 (M_number (M_cd v))), ((q 3), aZ K 5 (M_isTold (M_rd v))), ((q 4), aI K 80 (M_codeSort (M_cd v))), ((q 5), aI K 80 (M_codeA (M_cd v))), ((q 6), aI K 80 (M_codeB (M_cd v))), ((q 7), aI K 80 (M_codeC (M_cd v))), ((q 8), aI K 80 (M_codeName (M_cd v))), ((q 9), aI K 80 (M_codePlace (M_cd v))), ((q 10), aI K 80 (M_codeTo (M_cd v))), ((q 11), aI K 280 (M_labelName (M_cd v))), ((q 12), aI K 280 (M_labelAt (M_cd v))), ((q 13), aI K 64 (M_data (M_cd v))), ((q 14), aZ K 32 (M_hasData (M_rd v))), ((q 15), aI K 314 f2), ((q 16), aI K 314 (M_aside (M_ex v))), ((q 17), aI K 314 (M_further (M_ex v))), ((q 18), aI K 314 (M_image (M_im v))), ((q 19), aI K 3 (M_sizeNow (M_rn v))), ((q 20), aI K 8 (M_aloneRegister (M_al v))), ((q 21), aI K 4 (M_aloneReal (M_al v))), ((q 22), aI K 32 (M_aloneMemory (M_al v))), ((q 23), aI K 999 (M_aloneOutput (M_al v)))]) ([(0, .ref (q 0)), (1, .int a1), (2, .int a2), (3, .int a3), (4, .int x1)]) ([]) 4 := by
    intro k4_40 hk4_40 n4
    induction n4 with
    | zero => intro x1 f2 hf; exact (nomatch (show (none : Option (T_M)) = some _ from hf))
    | succ n4 ih4 =>
      intro x1 f2 hf
      rw [f_M_alarms_L4] at hf
      refine r_iload (pc := 4) cx dX10_alarms_4 4 rfl ?_
      refine r_iconst (pc := 6) cx dX10_alarms_6 ic_4 ?_
      refine r_icmp_lt (pc := 7) (tgt := 40) cx dX10_alarms_7 (by decide) (fun h4 => ?_) (fun h4 => ?_)
      · have hf := ifp h4 hf
        refine r_loc (loc' := [(0, .ref (q 0)), (1, .int a1), (2, .int a2), (3, .int a3)]) [0, 1, 2, 3] rfl ?_
        exact hk4_40 _ hf
      · have hf := ifn h4 hf
        refine r_aload_n (pc := 10) cx dX10_alarms_10 0 rfl ?_
        refine r_get (pc := 11) cx cf_X10 0 26 rfl (by decide) rfl wd_1342 dX10_alarms_11 ?_
        refine r_sipush (pc := 14) cx dX10_alarms_14 sp_233 ?_
        refine r_iload (pc := 17) cx dX10_alarms_17 4 rfl ?_
        refine r_iadd (pc := 19) cx dX10_alarms_19 ?_
        refine r_aload_n (pc := 20) cx dX10_alarms_20 0 rfl ?_
        refine r_get (pc := 21) cx cf_X10 0 26 rfl (by decide) rfl wd_1342 dX10_alarms_21 ?_
        refine r_sipush (pc := 24) cx dX10_alarms_24 sp_233 ?_
        refine r_iload (pc := 27) cx dX10_alarms_27 4 rfl ?_
        refine r_iadd (pc := 29) cx dX10_alarms_29 ?_
        refine r_iconst (pc := 30) cx dX10_alarms_30 ic_4 ?_
        refine r_isub (pc := 31) cx dX10_alarms_31 ?_
        obtain ⟨h5, hf⟩ := chk_of hf
        refine r_iald (pc := 32) cx 15 rfl h5 dX10_alarms_32 ?_
        obtain ⟨x6, ex6, hf⟩ := nm_of hf
        refine r_nm ex6 ?_
        obtain ⟨h7, hf⟩ := chk_of hf
        obtain ⟨f8, ef8, hf⟩ := nm_of hf
        refine r_iast (pc := 33) (ws' := [((q 0), ob 9 [.int (M_thrown v), .ref (q 1), .int (M_taped (M_tp v)), .ref (q 2), .ref (q 3), .ref (q 4), .ref (q 5), .ref (q 6), .ref (q 7), .ref (q 8), .ref (q 9), .ref (q 10), .ref (q 11), .ref (q 12), .ref (q 13), .ref (q 14), .int (M_lines (M_rd v)), .int (M_size (M_rd v)), .int (M_at (M_rd v)), .int (M_place (M_rd v)), .int (M_sort (M_rd v)), .int (M_value (M_rd v)), .int (M_fault (M_rd v)), .int (M_faultPlace (M_rd v)), .int (M_lastFault (M_lf v)), .int (M_lastPlace (M_lf v)), .ref (q 15), .ref (q 16), .ref (q 17), .ref (q 18), .int (M_hasImage (M_im v)), .int (M_spanNow (M_rn v)), .ref (q 19), .int (M_placeThen (M_rn v)), .int (M_alonePlace (M_al v)), .int (M_aloneSteps (M_al v)), .int (M_aloneOut (M_al v)), .ref (q 20), .ref (q 21), .ref (q 22), .ref (q 23), .int (M_shotAlarm (M_ex v)), .int (M_drawn (M_ex v))]), ((q 1), aI K 700 (M_tape (M_tp v))), ((q 2), aI K 20 (M_number (M_cd v))), ((q 3), aZ K 5 (M_isTold (M_rd v))), ((q 4), aI K 80 (M_codeSort (M_cd v))), ((q 5), aI K 80 (M_codeA (M_cd v))), ((q 6), aI K 80 (M_codeB (M_cd v))), ((q 7), aI K 80 (M_codeC (M_cd v))), ((q 8), aI K 80 (M_codeName (M_cd v))), ((q 9), aI K 80 (M_codePlace (M_cd v))), ((q 10), aI K 80 (M_codeTo (M_cd v))), ((q 11), aI K 280 (M_labelName (M_cd v))), ((q 12), aI K 280 (M_labelAt (M_cd v))), ((q 13), aI K 64 (M_data (M_cd v))), ((q 14), aZ K 32 (M_hasData (M_rd v))), ((q 15), aI K 314 f8), ((q 16), aI K 314 (M_aside (M_ex v))), ((q 17), aI K 314 (M_further (M_ex v))), ((q 18), aI K 314 (M_image (M_im v))), ((q 19), aI K 3 (M_sizeNow (M_rn v))), ((q 20), aI K 8 (M_aloneRegister (M_al v))), ((q 21), aI K 4 (M_aloneReal (M_al v))), ((q 22), aI K 32 (M_aloneMemory (M_al v))), ((q 23), aI K 999 (M_aloneOutput (M_al v)))]) cx 15 rfl h7 dX10_alarms_33 ef8 rfl ?_
        obtain ⟨x9, ex9, hf⟩ := nm_of hf
        refine r_iinc (pc := 34) (loc' := [(4, .int x9), (0, .ref (q 0)), (1, .int a1), (2, .int a2), (3, .int a3)]) (v := x9) cx dX10_alarms_34 4 rfl ((congrArg (fun z => x1 + z) ic_m1).trans ex9.symm) (by decide) rfl ?_
        refine r_goto (pc := 37) (tgt := 4) cx dX10_alarms_37 (by decide) ?_
        refine r_loc (loc' := [(0, .ref (q 0)), (1, .int a1), (2, .int a2), (3, .int a3), (4, .int x9)]) [1, 2, 3, 4, 0] rfl ?_
        exact ih4 _ _ hf
  refine r_loc (loc' := [(0, .ref (q 0)), (1, .int a1), (2, .int a2), (3, .int a3), (4, .int (31 : Int32))]) [1, 2, 3, 4, 0] rfl ?_
  refine hL4 _ (fun f3 hf => ?_) _ _ _ hf
  refine r_aload_n (pc := 40) cx dX10_alarms_40 0 rfl ?_
  refine r_get (pc := 41) cx cf_X10 0 26 rfl (by decide) rfl wd_1342 dX10_alarms_41 ?_
  refine r_sipush (pc := 44) cx dX10_alarms_44 sp_233 ?_
  refine r_iload_n (pc := 47) cx dX10_alarms_47 1 rfl ?_
  obtain ⟨f10, ef10, hf⟩ := nm_of hf
  refine r_iast (pc := 48) (ws' := [((q 0), ob 9 [.int (M_thrown v), .ref (q 1), .int (M_taped (M_tp v)), .ref (q 2), .ref (q 3), .ref (q 4), .ref (q 5), .ref (q 6), .ref (q 7), .ref (q 8), .ref (q 9), .ref (q 10), .ref (q 11), .ref (q 12), .ref (q 13), .ref (q 14), .int (M_lines (M_rd v)), .int (M_size (M_rd v)), .int (M_at (M_rd v)), .int (M_place (M_rd v)), .int (M_sort (M_rd v)), .int (M_value (M_rd v)), .int (M_fault (M_rd v)), .int (M_faultPlace (M_rd v)), .int (M_lastFault (M_lf v)), .int (M_lastPlace (M_lf v)), .ref (q 15), .ref (q 16), .ref (q 17), .ref (q 18), .int (M_hasImage (M_im v)), .int (M_spanNow (M_rn v)), .ref (q 19), .int (M_placeThen (M_rn v)), .int (M_alonePlace (M_al v)), .int (M_aloneSteps (M_al v)), .int (M_aloneOut (M_al v)), .ref (q 20), .ref (q 21), .ref (q 22), .ref (q 23), .int (M_shotAlarm (M_ex v)), .int (M_drawn (M_ex v))]), ((q 1), aI K 700 (M_tape (M_tp v))), ((q 2), aI K 20 (M_number (M_cd v))), ((q 3), aZ K 5 (M_isTold (M_rd v))), ((q 4), aI K 80 (M_codeSort (M_cd v))), ((q 5), aI K 80 (M_codeA (M_cd v))), ((q 6), aI K 80 (M_codeB (M_cd v))), ((q 7), aI K 80 (M_codeC (M_cd v))), ((q 8), aI K 80 (M_codeName (M_cd v))), ((q 9), aI K 80 (M_codePlace (M_cd v))), ((q 10), aI K 80 (M_codeTo (M_cd v))), ((q 11), aI K 280 (M_labelName (M_cd v))), ((q 12), aI K 280 (M_labelAt (M_cd v))), ((q 13), aI K 64 (M_data (M_cd v))), ((q 14), aZ K 32 (M_hasData (M_rd v))), ((q 15), aI K 314 f10), ((q 16), aI K 314 (M_aside (M_ex v))), ((q 17), aI K 314 (M_further (M_ex v))), ((q 18), aI K 314 (M_image (M_im v))), ((q 19), aI K 3 (M_sizeNow (M_rn v))), ((q 20), aI K 8 (M_aloneRegister (M_al v))), ((q 21), aI K 4 (M_aloneReal (M_al v))), ((q 22), aI K 32 (M_aloneMemory (M_al v))), ((q 23), aI K 999 (M_aloneOutput (M_al v)))]) cx 15 rfl (by decide) dX10_alarms_48 ef10 rfl ?_
  refine r_aload_n (pc := 49) cx dX10_alarms_49 0 rfl ?_
  refine r_get (pc := 50) cx cf_X10 0 26 rfl (by decide) rfl wd_1342 dX10_alarms_50 ?_
  refine r_sipush (pc := 53) cx dX10_alarms_53 sp_234 ?_
  refine r_aload_n (pc := 56) cx dX10_alarms_56 0 rfl ?_
  refine r_get (pc := 57) cx cf_X10 0 26 rfl (by decide) rfl wd_1342 dX10_alarms_57 ?_
  refine r_sipush (pc := 60) cx dX10_alarms_60 sp_219 ?_
  refine r_iald (pc := 63) cx 15 rfl (by decide) dX10_alarms_63 ?_
  obtain ⟨x11, ex11, hf⟩ := nm_of hf
  refine r_nm ex11 ?_
  obtain ⟨f12, ef12, hf⟩ := nm_of hf
  refine r_iast (pc := 64) (ws' := [((q 0), ob 9 [.int (M_thrown v), .ref (q 1), .int (M_taped (M_tp v)), .ref (q 2), .ref (q 3), .ref (q 4), .ref (q 5), .ref (q 6), .ref (q 7), .ref (q 8), .ref (q 9), .ref (q 10), .ref (q 11), .ref (q 12), .ref (q 13), .ref (q 14), .int (M_lines (M_rd v)), .int (M_size (M_rd v)), .int (M_at (M_rd v)), .int (M_place (M_rd v)), .int (M_sort (M_rd v)), .int (M_value (M_rd v)), .int (M_fault (M_rd v)), .int (M_faultPlace (M_rd v)), .int (M_lastFault (M_lf v)), .int (M_lastPlace (M_lf v)), .ref (q 15), .ref (q 16), .ref (q 17), .ref (q 18), .int (M_hasImage (M_im v)), .int (M_spanNow (M_rn v)), .ref (q 19), .int (M_placeThen (M_rn v)), .int (M_alonePlace (M_al v)), .int (M_aloneSteps (M_al v)), .int (M_aloneOut (M_al v)), .ref (q 20), .ref (q 21), .ref (q 22), .ref (q 23), .int (M_shotAlarm (M_ex v)), .int (M_drawn (M_ex v))]), ((q 1), aI K 700 (M_tape (M_tp v))), ((q 2), aI K 20 (M_number (M_cd v))), ((q 3), aZ K 5 (M_isTold (M_rd v))), ((q 4), aI K 80 (M_codeSort (M_cd v))), ((q 5), aI K 80 (M_codeA (M_cd v))), ((q 6), aI K 80 (M_codeB (M_cd v))), ((q 7), aI K 80 (M_codeC (M_cd v))), ((q 8), aI K 80 (M_codeName (M_cd v))), ((q 9), aI K 80 (M_codePlace (M_cd v))), ((q 10), aI K 80 (M_codeTo (M_cd v))), ((q 11), aI K 280 (M_labelName (M_cd v))), ((q 12), aI K 280 (M_labelAt (M_cd v))), ((q 13), aI K 64 (M_data (M_cd v))), ((q 14), aZ K 32 (M_hasData (M_rd v))), ((q 15), aI K 314 f12), ((q 16), aI K 314 (M_aside (M_ex v))), ((q 17), aI K 314 (M_further (M_ex v))), ((q 18), aI K 314 (M_image (M_im v))), ((q 19), aI K 3 (M_sizeNow (M_rn v))), ((q 20), aI K 8 (M_aloneRegister (M_al v))), ((q 21), aI K 4 (M_aloneReal (M_al v))), ((q 22), aI K 32 (M_aloneMemory (M_al v))), ((q 23), aI K 999 (M_aloneOutput (M_al v)))]) cx 15 rfl (by decide) dX10_alarms_64 ef12 rfl ?_
  refine r_aload_n (pc := 65) cx dX10_alarms_65 0 rfl ?_
  refine r_get (pc := 66) cx cf_X10 0 26 rfl (by decide) rfl wd_1342 dX10_alarms_66 ?_
  refine r_sipush (pc := 69) cx dX10_alarms_69 sp_235 ?_
  refine r_iload_n (pc := 72) cx dX10_alarms_72 2 rfl ?_
  obtain ⟨f13, ef13, hf⟩ := nm_of hf
  refine r_iast (pc := 73) (ws' := [((q 0), ob 9 [.int (M_thrown v), .ref (q 1), .int (M_taped (M_tp v)), .ref (q 2), .ref (q 3), .ref (q 4), .ref (q 5), .ref (q 6), .ref (q 7), .ref (q 8), .ref (q 9), .ref (q 10), .ref (q 11), .ref (q 12), .ref (q 13), .ref (q 14), .int (M_lines (M_rd v)), .int (M_size (M_rd v)), .int (M_at (M_rd v)), .int (M_place (M_rd v)), .int (M_sort (M_rd v)), .int (M_value (M_rd v)), .int (M_fault (M_rd v)), .int (M_faultPlace (M_rd v)), .int (M_lastFault (M_lf v)), .int (M_lastPlace (M_lf v)), .ref (q 15), .ref (q 16), .ref (q 17), .ref (q 18), .int (M_hasImage (M_im v)), .int (M_spanNow (M_rn v)), .ref (q 19), .int (M_placeThen (M_rn v)), .int (M_alonePlace (M_al v)), .int (M_aloneSteps (M_al v)), .int (M_aloneOut (M_al v)), .ref (q 20), .ref (q 21), .ref (q 22), .ref (q 23), .int (M_shotAlarm (M_ex v)), .int (M_drawn (M_ex v))]), ((q 1), aI K 700 (M_tape (M_tp v))), ((q 2), aI K 20 (M_number (M_cd v))), ((q 3), aZ K 5 (M_isTold (M_rd v))), ((q 4), aI K 80 (M_codeSort (M_cd v))), ((q 5), aI K 80 (M_codeA (M_cd v))), ((q 6), aI K 80 (M_codeB (M_cd v))), ((q 7), aI K 80 (M_codeC (M_cd v))), ((q 8), aI K 80 (M_codeName (M_cd v))), ((q 9), aI K 80 (M_codePlace (M_cd v))), ((q 10), aI K 80 (M_codeTo (M_cd v))), ((q 11), aI K 280 (M_labelName (M_cd v))), ((q 12), aI K 280 (M_labelAt (M_cd v))), ((q 13), aI K 64 (M_data (M_cd v))), ((q 14), aZ K 32 (M_hasData (M_rd v))), ((q 15), aI K 314 f13), ((q 16), aI K 314 (M_aside (M_ex v))), ((q 17), aI K 314 (M_further (M_ex v))), ((q 18), aI K 314 (M_image (M_im v))), ((q 19), aI K 3 (M_sizeNow (M_rn v))), ((q 20), aI K 8 (M_aloneRegister (M_al v))), ((q 21), aI K 4 (M_aloneReal (M_al v))), ((q 22), aI K 32 (M_aloneMemory (M_al v))), ((q 23), aI K 999 (M_aloneOutput (M_al v)))]) cx 15 rfl (by decide) dX10_alarms_73 ef13 rfl ?_
  refine r_aload_n (pc := 74) cx dX10_alarms_74 0 rfl ?_
  refine r_get (pc := 75) cx cf_X10 0 26 rfl (by decide) rfl wd_1342 dX10_alarms_75 ?_
  refine r_sipush (pc := 78) cx dX10_alarms_78 sp_236 ?_
  refine r_iload_n (pc := 81) cx dX10_alarms_81 3 rfl ?_
  obtain ⟨f14, ef14, hf⟩ := nm_of hf
  refine r_iast (pc := 82) (ws' := [((q 0), ob 9 [.int (M_thrown v), .ref (q 1), .int (M_taped (M_tp v)), .ref (q 2), .ref (q 3), .ref (q 4), .ref (q 5), .ref (q 6), .ref (q 7), .ref (q 8), .ref (q 9), .ref (q 10), .ref (q 11), .ref (q 12), .ref (q 13), .ref (q 14), .int (M_lines (M_rd v)), .int (M_size (M_rd v)), .int (M_at (M_rd v)), .int (M_place (M_rd v)), .int (M_sort (M_rd v)), .int (M_value (M_rd v)), .int (M_fault (M_rd v)), .int (M_faultPlace (M_rd v)), .int (M_lastFault (M_lf v)), .int (M_lastPlace (M_lf v)), .ref (q 15), .ref (q 16), .ref (q 17), .ref (q 18), .int (M_hasImage (M_im v)), .int (M_spanNow (M_rn v)), .ref (q 19), .int (M_placeThen (M_rn v)), .int (M_alonePlace (M_al v)), .int (M_aloneSteps (M_al v)), .int (M_aloneOut (M_al v)), .ref (q 20), .ref (q 21), .ref (q 22), .ref (q 23), .int (M_shotAlarm (M_ex v)), .int (M_drawn (M_ex v))]), ((q 1), aI K 700 (M_tape (M_tp v))), ((q 2), aI K 20 (M_number (M_cd v))), ((q 3), aZ K 5 (M_isTold (M_rd v))), ((q 4), aI K 80 (M_codeSort (M_cd v))), ((q 5), aI K 80 (M_codeA (M_cd v))), ((q 6), aI K 80 (M_codeB (M_cd v))), ((q 7), aI K 80 (M_codeC (M_cd v))), ((q 8), aI K 80 (M_codeName (M_cd v))), ((q 9), aI K 80 (M_codePlace (M_cd v))), ((q 10), aI K 80 (M_codeTo (M_cd v))), ((q 11), aI K 280 (M_labelName (M_cd v))), ((q 12), aI K 280 (M_labelAt (M_cd v))), ((q 13), aI K 64 (M_data (M_cd v))), ((q 14), aZ K 32 (M_hasData (M_rd v))), ((q 15), aI K 314 f14), ((q 16), aI K 314 (M_aside (M_ex v))), ((q 17), aI K 314 (M_further (M_ex v))), ((q 18), aI K 314 (M_image (M_im v))), ((q 19), aI K 3 (M_sizeNow (M_rn v))), ((q 20), aI K 8 (M_aloneRegister (M_al v))), ((q 21), aI K 4 (M_aloneReal (M_al v))), ((q 22), aI K 32 (M_aloneMemory (M_al v))), ((q 23), aI K 999 (M_aloneOutput (M_al v)))]) cx 15 rfl (by decide) dX10_alarms_82 ef14 rfl ?_
  refine r_aload_n (pc := 83) cx dX10_alarms_83 0 rfl ?_
  refine r_get (pc := 84) cx cf_X10 0 26 rfl (by decide) rfl wd_1342 dX10_alarms_84 ?_
  refine r_sipush (pc := 87) cx dX10_alarms_87 sp_221 ?_
  refine r_dup2 (pc := 90) cx dX10_alarms_90 rfl rfl ?_
  refine r_iald (pc := 91) cx 15 rfl (by decide) dX10_alarms_91 ?_
  refine r_iconst (pc := 92) cx dX10_alarms_92 ic_1 ?_
  refine r_iadd (pc := 93) cx dX10_alarms_93 ?_
  obtain ⟨x15, ex15, hf⟩ := nm_of hf
  refine r_nm ex15 ?_
  obtain ⟨f16, ef16, hf⟩ := nm_of hf
  refine r_iast (pc := 94) (ws' := [((q 0), ob 9 [.int (M_thrown v), .ref (q 1), .int (M_taped (M_tp v)), .ref (q 2), .ref (q 3), .ref (q 4), .ref (q 5), .ref (q 6), .ref (q 7), .ref (q 8), .ref (q 9), .ref (q 10), .ref (q 11), .ref (q 12), .ref (q 13), .ref (q 14), .int (M_lines (M_rd v)), .int (M_size (M_rd v)), .int (M_at (M_rd v)), .int (M_place (M_rd v)), .int (M_sort (M_rd v)), .int (M_value (M_rd v)), .int (M_fault (M_rd v)), .int (M_faultPlace (M_rd v)), .int (M_lastFault (M_lf v)), .int (M_lastPlace (M_lf v)), .ref (q 15), .ref (q 16), .ref (q 17), .ref (q 18), .int (M_hasImage (M_im v)), .int (M_spanNow (M_rn v)), .ref (q 19), .int (M_placeThen (M_rn v)), .int (M_alonePlace (M_al v)), .int (M_aloneSteps (M_al v)), .int (M_aloneOut (M_al v)), .ref (q 20), .ref (q 21), .ref (q 22), .ref (q 23), .int (M_shotAlarm (M_ex v)), .int (M_drawn (M_ex v))]), ((q 1), aI K 700 (M_tape (M_tp v))), ((q 2), aI K 20 (M_number (M_cd v))), ((q 3), aZ K 5 (M_isTold (M_rd v))), ((q 4), aI K 80 (M_codeSort (M_cd v))), ((q 5), aI K 80 (M_codeA (M_cd v))), ((q 6), aI K 80 (M_codeB (M_cd v))), ((q 7), aI K 80 (M_codeC (M_cd v))), ((q 8), aI K 80 (M_codeName (M_cd v))), ((q 9), aI K 80 (M_codePlace (M_cd v))), ((q 10), aI K 80 (M_codeTo (M_cd v))), ((q 11), aI K 280 (M_labelName (M_cd v))), ((q 12), aI K 280 (M_labelAt (M_cd v))), ((q 13), aI K 64 (M_data (M_cd v))), ((q 14), aZ K 32 (M_hasData (M_rd v))), ((q 15), aI K 314 f16), ((q 16), aI K 314 (M_aside (M_ex v))), ((q 17), aI K 314 (M_further (M_ex v))), ((q 18), aI K 314 (M_image (M_im v))), ((q 19), aI K 3 (M_sizeNow (M_rn v))), ((q 20), aI K 8 (M_aloneRegister (M_al v))), ((q 21), aI K 4 (M_aloneReal (M_al v))), ((q 22), aI K 32 (M_aloneMemory (M_al v))), ((q 23), aI K 999 (M_aloneOutput (M_al v)))]) cx 15 rfl (by decide) dX10_alarms_94 ef16 rfl ?_
  refine r_aload_n (pc := 95) cx dX10_alarms_95 0 rfl ?_
  refine r_get (pc := 96) cx cf_X10 0 26 rfl (by decide) rfl wd_1342 dX10_alarms_96 ?_
  refine r_sipush (pc := 99) cx dX10_alarms_99 sp_222 ?_
  refine r_dup2 (pc := 102) cx dX10_alarms_102 rfl rfl ?_
  refine r_iald (pc := 103) cx 15 rfl (by decide) dX10_alarms_103 ?_
  refine r_iconst (pc := 104) cx dX10_alarms_104 ic_1 ?_
  refine r_iadd (pc := 105) cx dX10_alarms_105 ?_
  obtain ⟨x17, ex17, hf⟩ := nm_of hf
  refine r_nm ex17 ?_
  obtain ⟨f18, ef18, hf⟩ := nm_of hf
  refine r_iast (pc := 106) (ws' := [((q 0), ob 9 [.int (M_thrown v), .ref (q 1), .int (M_taped (M_tp v)), .ref (q 2), .ref (q 3), .ref (q 4), .ref (q 5), .ref (q 6), .ref (q 7), .ref (q 8), .ref (q 9), .ref (q 10), .ref (q 11), .ref (q 12), .ref (q 13), .ref (q 14), .int (M_lines (M_rd v)), .int (M_size (M_rd v)), .int (M_at (M_rd v)), .int (M_place (M_rd v)), .int (M_sort (M_rd v)), .int (M_value (M_rd v)), .int (M_fault (M_rd v)), .int (M_faultPlace (M_rd v)), .int (M_lastFault (M_lf v)), .int (M_lastPlace (M_lf v)), .ref (q 15), .ref (q 16), .ref (q 17), .ref (q 18), .int (M_hasImage (M_im v)), .int (M_spanNow (M_rn v)), .ref (q 19), .int (M_placeThen (M_rn v)), .int (M_alonePlace (M_al v)), .int (M_aloneSteps (M_al v)), .int (M_aloneOut (M_al v)), .ref (q 20), .ref (q 21), .ref (q 22), .ref (q 23), .int (M_shotAlarm (M_ex v)), .int (M_drawn (M_ex v))]), ((q 1), aI K 700 (M_tape (M_tp v))), ((q 2), aI K 20 (M_number (M_cd v))), ((q 3), aZ K 5 (M_isTold (M_rd v))), ((q 4), aI K 80 (M_codeSort (M_cd v))), ((q 5), aI K 80 (M_codeA (M_cd v))), ((q 6), aI K 80 (M_codeB (M_cd v))), ((q 7), aI K 80 (M_codeC (M_cd v))), ((q 8), aI K 80 (M_codeName (M_cd v))), ((q 9), aI K 80 (M_codePlace (M_cd v))), ((q 10), aI K 80 (M_codeTo (M_cd v))), ((q 11), aI K 280 (M_labelName (M_cd v))), ((q 12), aI K 280 (M_labelAt (M_cd v))), ((q 13), aI K 64 (M_data (M_cd v))), ((q 14), aZ K 32 (M_hasData (M_rd v))), ((q 15), aI K 314 f18), ((q 16), aI K 314 (M_aside (M_ex v))), ((q 17), aI K 314 (M_further (M_ex v))), ((q 18), aI K 314 (M_image (M_im v))), ((q 19), aI K 3 (M_sizeNow (M_rn v))), ((q 20), aI K 8 (M_aloneRegister (M_al v))), ((q 21), aI K 4 (M_aloneReal (M_al v))), ((q 22), aI K 32 (M_aloneMemory (M_al v))), ((q 23), aI K 999 (M_aloneOutput (M_al v)))]) cx 15 rfl (by decide) dX10_alarms_106 ef18 rfl ?_
  refine r_iconst (pc := 107) cx dX10_alarms_107 ic_0 ?_
  refine r_istore (pc := 108) (loc' := [(4, .int (0 : Int32)), (0, .ref (q 0)), (1, .int a1), (2, .int a2), (3, .int a3)]) cx dX10_alarms_108 (by decide) rfl ?_
  have hL110 : ∀ (k110_151 : (Nat → Int32) → Option (T_M)), (∀ (f21 : (Nat → Int32)), k110_151 f21 = some o_v → WW p l e rm_M_alarms s m args below meth c D A 5 0 0 (MQ below (QV D K A (cl_M K q o_v)) args s 0 0 A) ([((q 0), ob 9 [.int (M_thrown v), .ref (q 1), .int (M_taped (M_tp v)), .ref (q 2), .ref (q 3), .ref (q 4), .ref (q 5), .ref (q 6), .ref (q 7), .ref (q 8), .ref (q 9), .ref (q 10), .ref (q 11), .ref (q 12), .ref (q 13), .ref (q 14), .int (M_lines (M_rd v)), .int (M_size (M_rd v)), .int (M_at (M_rd v)), .int (M_place (M_rd v)), .int (M_sort (M_rd v)), .int (M_value (M_rd v)), .int (M_fault (M_rd v)), .int (M_faultPlace (M_rd v)), .int (M_lastFault (M_lf v)), .int (M_lastPlace (M_lf v)), .ref (q 15), .ref (q 16), .ref (q 17), .ref (q 18), .int (M_hasImage (M_im v)), .int (M_spanNow (M_rn v)), .ref (q 19), .int (M_placeThen (M_rn v)), .int (M_alonePlace (M_al v)), .int (M_aloneSteps (M_al v)), .int (M_aloneOut (M_al v)), .ref (q 20), .ref (q 21), .ref (q 22), .ref (q 23), .int (M_shotAlarm (M_ex v)), .int (M_drawn (M_ex v))]), ((q 1), aI K 700 (M_tape (M_tp v))), ((q 2), aI K 20 (M_number (M_cd v))), ((q 3), aZ K 5 (M_isTold (M_rd v))), ((q 4), aI K 80 (M_codeSort (M_cd v))), ((q 5), aI K 80 (M_codeA (M_cd v))), ((q 6), aI K 80 (M_codeB (M_cd v))), ((q 7), aI K 80 (M_codeC (M_cd v))), ((q 8), aI K 80 (M_codeName (M_cd v))), ((q 9), aI K 80 (M_codePlace (M_cd v))), ((q 10), aI K 80 (M_codeTo (M_cd v))), ((q 11), aI K 280 (M_labelName (M_cd v))), ((q 12), aI K 280 (M_labelAt (M_cd v))), ((q 13), aI K 64 (M_data (M_cd v))), ((q 14), aZ K 32 (M_hasData (M_rd v))), ((q 15), aI K 314 f21), ((q 16), aI K 314 (M_aside (M_ex v))), ((q 17), aI K 314 (M_further (M_ex v))), ((q 18), aI K 314 (M_image (M_im v))), ((q 19), aI K 3 (M_sizeNow (M_rn v))), ((q 20), aI K 8 (M_aloneRegister (M_al v))), ((q 21), aI K 4 (M_aloneReal (M_al v))), ((q 22), aI K 32 (M_aloneMemory (M_al v))), ((q 23), aI K 999 (M_aloneOutput (M_al v)))]) ([(0, .ref (q 0))]) ([]) 151) → ∀ (n110 : Nat) (x19 : Int32) (f20 : (Nat → Int32)), f_M_alarms_L110 k110_151 n110 x19 f20 = some o_v → WW p l e rm_M_alarms s m args below meth c D A 5 0 0 (MQ below (QV D K A (cl_M K q o_v)) args s 0 0 A) ([((q 0), ob 9 [.int (M_thrown v), .ref (q 1), .int (M_taped (M_tp v)), .ref (q 2), .ref (q 3), .ref (q 4), .ref (q 5), .ref (q 6), .ref (q 7), .ref (q 8), .ref (q 9), .ref (q 10), .ref (q 11), .ref (q 12), .ref (q 13), .ref (q 14), .int (M_lines (M_rd v)), .int (M_size (M_rd v)), .int (M_at (M_rd v)), .int (M_place (M_rd v)), .int (M_sort (M_rd v)), .int (M_value (M_rd v)), .int (M_fault (M_rd v)), .int (M_faultPlace (M_rd v)), .int (M_lastFault (M_lf v)), .int (M_lastPlace (M_lf v)), .ref (q 15), .ref (q 16), .ref (q 17), .ref (q 18), .int (M_hasImage (M_im v)), .int (M_spanNow (M_rn v)), .ref (q 19), .int (M_placeThen (M_rn v)), .int (M_alonePlace (M_al v)), .int (M_aloneSteps (M_al v)), .int (M_aloneOut (M_al v)), .ref (q 20), .ref (q 21), .ref (q 22), .ref (q 23), .int (M_shotAlarm (M_ex v)), .int (M_drawn (M_ex v))]), ((q 1), aI K 700 (M_tape (M_tp v))), ((q 2), aI K 20 (M_number (M_cd v))), ((q 3), aZ K 5 (M_isTold (M_rd v))), ((q 4), aI K 80 (M_codeSort (M_cd v))), ((q 5), aI K 80 (M_codeA (M_cd v))), ((q 6), aI K 80 (M_codeB (M_cd v))), ((q 7), aI K 80 (M_codeC (M_cd v))), ((q 8), aI K 80 (M_codeName (M_cd v))), ((q 9), aI K 80 (M_codePlace (M_cd v))), ((q 10), aI K 80 (M_codeTo (M_cd v))), ((q 11), aI K 280 (M_labelName (M_cd v))), ((q 12), aI K 280 (M_labelAt (M_cd v))), ((q 13), aI K 64 (M_data (M_cd v))), ((q 14), aZ K 32 (M_hasData (M_rd v))), ((q 15), aI K 314 f20), ((q 16), aI K 314 (M_aside (M_ex v))), ((q 17), aI K 314 (M_further (M_ex v))), ((q 18), aI K 314 (M_image (M_im v))), ((q 19), aI K 3 (M_sizeNow (M_rn v))), ((q 20), aI K 8 (M_aloneRegister (M_al v))), ((q 21), aI K 4 (M_aloneReal (M_al v))), ((q 22), aI K 32 (M_aloneMemory (M_al v))), ((q 23), aI K 999 (M_aloneOutput (M_al v)))]) ([(0, .ref (q 0)), (4, .int x19)]) ([]) 110 := by
    intro k110_151 hk110_151 n110
    induction n110 with
    | zero => intro x19 f20 hf; exact (nomatch (show (none : Option (T_M)) = some _ from hf))
    | succ n110 ih110 =>
      intro x19 f20 hf
      rw [f_M_alarms_L110] at hf
      refine r_iload (pc := 110) cx dX10_alarms_110 1 rfl ?_
      refine r_iconst (pc := 112) cx dX10_alarms_112 ic_2 ?_
      refine r_icmp_ge (pc := 113) (tgt := 151) cx dX10_alarms_113 (by decide) (fun h22 => ?_) (fun h22 => ?_)
      · have hf := ifp h22 hf
        refine r_loc (loc' := [(0, .ref (q 0))]) [0] rfl ?_
        exact hk110_151 _ hf
      · have hf := ifn h22 hf
        refine r_aload_n (pc := 116) cx dX10_alarms_116 0 rfl ?_
        refine r_get (pc := 117) cx cf_X10 0 26 rfl (by decide) rfl wd_1342 dX10_alarms_117 ?_
        refine r_iconst (pc := 120) cx dX10_alarms_120 ic_0 ?_
        refine r_iload (pc := 121) cx dX10_alarms_121 1 rfl ?_
        refine r_iadd (pc := 123) cx dX10_alarms_123 ?_
        refine r_aload_n (pc := 124) cx dX10_alarms_124 0 rfl ?_
        refine r_get (pc := 125) cx cf_X10 0 26 rfl (by decide) rfl wd_1342 dX10_alarms_125 ?_
        refine r_bipush (pc := 128) cx dX10_alarms_128 bp_28 ?_
        refine r_iload (pc := 130) cx dX10_alarms_130 1 rfl ?_
        refine r_iadd (pc := 132) cx dX10_alarms_132 ?_
        obtain ⟨h23, hf⟩ := chk_of hf
        refine r_iald (pc := 133) cx 15 rfl h23 dX10_alarms_133 ?_
        obtain ⟨x24, ex24, hf⟩ := nm_of hf
        refine r_nm ex24 ?_
        obtain ⟨h25, hf⟩ := chk_of hf
        obtain ⟨f26, ef26, hf⟩ := nm_of hf
        refine r_iast (pc := 134) (ws' := [((q 0), ob 9 [.int (M_thrown v), .ref (q 1), .int (M_taped (M_tp v)), .ref (q 2), .ref (q 3), .ref (q 4), .ref (q 5), .ref (q 6), .ref (q 7), .ref (q 8), .ref (q 9), .ref (q 10), .ref (q 11), .ref (q 12), .ref (q 13), .ref (q 14), .int (M_lines (M_rd v)), .int (M_size (M_rd v)), .int (M_at (M_rd v)), .int (M_place (M_rd v)), .int (M_sort (M_rd v)), .int (M_value (M_rd v)), .int (M_fault (M_rd v)), .int (M_faultPlace (M_rd v)), .int (M_lastFault (M_lf v)), .int (M_lastPlace (M_lf v)), .ref (q 15), .ref (q 16), .ref (q 17), .ref (q 18), .int (M_hasImage (M_im v)), .int (M_spanNow (M_rn v)), .ref (q 19), .int (M_placeThen (M_rn v)), .int (M_alonePlace (M_al v)), .int (M_aloneSteps (M_al v)), .int (M_aloneOut (M_al v)), .ref (q 20), .ref (q 21), .ref (q 22), .ref (q 23), .int (M_shotAlarm (M_ex v)), .int (M_drawn (M_ex v))]), ((q 1), aI K 700 (M_tape (M_tp v))), ((q 2), aI K 20 (M_number (M_cd v))), ((q 3), aZ K 5 (M_isTold (M_rd v))), ((q 4), aI K 80 (M_codeSort (M_cd v))), ((q 5), aI K 80 (M_codeA (M_cd v))), ((q 6), aI K 80 (M_codeB (M_cd v))), ((q 7), aI K 80 (M_codeC (M_cd v))), ((q 8), aI K 80 (M_codeName (M_cd v))), ((q 9), aI K 80 (M_codePlace (M_cd v))), ((q 10), aI K 80 (M_codeTo (M_cd v))), ((q 11), aI K 280 (M_labelName (M_cd v))), ((q 12), aI K 280 (M_labelAt (M_cd v))), ((q 13), aI K 64 (M_data (M_cd v))), ((q 14), aZ K 32 (M_hasData (M_rd v))), ((q 15), aI K 314 f26), ((q 16), aI K 314 (M_aside (M_ex v))), ((q 17), aI K 314 (M_further (M_ex v))), ((q 18), aI K 314 (M_image (M_im v))), ((q 19), aI K 3 (M_sizeNow (M_rn v))), ((q 20), aI K 8 (M_aloneRegister (M_al v))), ((q 21), aI K 4 (M_aloneReal (M_al v))), ((q 22), aI K 32 (M_aloneMemory (M_al v))), ((q 23), aI K 999 (M_aloneOutput (M_al v)))]) cx 15 rfl h25 dX10_alarms_134 ef26 rfl ?_
        refine r_aload_n (pc := 135) cx dX10_alarms_135 0 rfl ?_
        refine r_get (pc := 136) cx cf_X10 0 26 rfl (by decide) rfl wd_1342 dX10_alarms_136 ?_
        refine r_iconst (pc := 139) cx dX10_alarms_139 ic_2 ?_
        refine r_iload (pc := 140) cx dX10_alarms_140 1 rfl ?_
        refine r_iadd (pc := 142) cx dX10_alarms_142 ?_
        refine r_iconst (pc := 143) cx dX10_alarms_143 ic_0 ?_
        obtain ⟨h27, hf⟩ := chk_of hf
        obtain ⟨f28, ef28, hf⟩ := nm_of hf
        refine r_iast (pc := 144) (ws' := [((q 0), ob 9 [.int (M_thrown v), .ref (q 1), .int (M_taped (M_tp v)), .ref (q 2), .ref (q 3), .ref (q 4), .ref (q 5), .ref (q 6), .ref (q 7), .ref (q 8), .ref (q 9), .ref (q 10), .ref (q 11), .ref (q 12), .ref (q 13), .ref (q 14), .int (M_lines (M_rd v)), .int (M_size (M_rd v)), .int (M_at (M_rd v)), .int (M_place (M_rd v)), .int (M_sort (M_rd v)), .int (M_value (M_rd v)), .int (M_fault (M_rd v)), .int (M_faultPlace (M_rd v)), .int (M_lastFault (M_lf v)), .int (M_lastPlace (M_lf v)), .ref (q 15), .ref (q 16), .ref (q 17), .ref (q 18), .int (M_hasImage (M_im v)), .int (M_spanNow (M_rn v)), .ref (q 19), .int (M_placeThen (M_rn v)), .int (M_alonePlace (M_al v)), .int (M_aloneSteps (M_al v)), .int (M_aloneOut (M_al v)), .ref (q 20), .ref (q 21), .ref (q 22), .ref (q 23), .int (M_shotAlarm (M_ex v)), .int (M_drawn (M_ex v))]), ((q 1), aI K 700 (M_tape (M_tp v))), ((q 2), aI K 20 (M_number (M_cd v))), ((q 3), aZ K 5 (M_isTold (M_rd v))), ((q 4), aI K 80 (M_codeSort (M_cd v))), ((q 5), aI K 80 (M_codeA (M_cd v))), ((q 6), aI K 80 (M_codeB (M_cd v))), ((q 7), aI K 80 (M_codeC (M_cd v))), ((q 8), aI K 80 (M_codeName (M_cd v))), ((q 9), aI K 80 (M_codePlace (M_cd v))), ((q 10), aI K 80 (M_codeTo (M_cd v))), ((q 11), aI K 280 (M_labelName (M_cd v))), ((q 12), aI K 280 (M_labelAt (M_cd v))), ((q 13), aI K 64 (M_data (M_cd v))), ((q 14), aZ K 32 (M_hasData (M_rd v))), ((q 15), aI K 314 f28), ((q 16), aI K 314 (M_aside (M_ex v))), ((q 17), aI K 314 (M_further (M_ex v))), ((q 18), aI K 314 (M_image (M_im v))), ((q 19), aI K 3 (M_sizeNow (M_rn v))), ((q 20), aI K 8 (M_aloneRegister (M_al v))), ((q 21), aI K 4 (M_aloneReal (M_al v))), ((q 22), aI K 32 (M_aloneMemory (M_al v))), ((q 23), aI K 999 (M_aloneOutput (M_al v)))]) cx 15 rfl h27 dX10_alarms_144 ef28 rfl ?_
        obtain ⟨x29, ex29, hf⟩ := nm_of hf
        refine r_iinc (pc := 145) (loc' := [(4, .int x29), (0, .ref (q 0))]) (v := x29) cx dX10_alarms_145 1 rfl ((congrArg (fun z => x19 + z) ic_1).trans ex29.symm) (by decide) rfl ?_
        refine r_goto (pc := 148) (tgt := 110) cx dX10_alarms_148 (by decide) ?_
        refine r_loc (loc' := [(0, .ref (q 0)), (4, .int x29)]) [1, 0] rfl ?_
        exact ih110 _ _ hf
  refine r_loc (loc' := [(0, .ref (q 0)), (4, .int (0 : Int32))]) [1, 0] rfl ?_
  refine hL110 _ (fun f21 hf => ?_) _ _ _ hf
  refine r_iconst (pc := 151) cx dX10_alarms_151 ic_0 ?_
  refine r_istore (pc := 152) (loc' := [(4, .int (0 : Int32)), (0, .ref (q 0))]) cx dX10_alarms_152 (by decide) rfl ?_
  have hL154 : ∀ (k154_186 : (Nat → Int32) → Option (T_M)), (∀ (f32 : (Nat → Int32)), k154_186 f32 = some o_v → WW p l e rm_M_alarms s m args below meth c D A 5 0 0 (MQ below (QV D K A (cl_M K q o_v)) args s 0 0 A) ([((q 0), ob 9 [.int (M_thrown v), .ref (q 1), .int (M_taped (M_tp v)), .ref (q 2), .ref (q 3), .ref (q 4), .ref (q 5), .ref (q 6), .ref (q 7), .ref (q 8), .ref (q 9), .ref (q 10), .ref (q 11), .ref (q 12), .ref (q 13), .ref (q 14), .int (M_lines (M_rd v)), .int (M_size (M_rd v)), .int (M_at (M_rd v)), .int (M_place (M_rd v)), .int (M_sort (M_rd v)), .int (M_value (M_rd v)), .int (M_fault (M_rd v)), .int (M_faultPlace (M_rd v)), .int (M_lastFault (M_lf v)), .int (M_lastPlace (M_lf v)), .ref (q 15), .ref (q 16), .ref (q 17), .ref (q 18), .int (M_hasImage (M_im v)), .int (M_spanNow (M_rn v)), .ref (q 19), .int (M_placeThen (M_rn v)), .int (M_alonePlace (M_al v)), .int (M_aloneSteps (M_al v)), .int (M_aloneOut (M_al v)), .ref (q 20), .ref (q 21), .ref (q 22), .ref (q 23), .int (M_shotAlarm (M_ex v)), .int (M_drawn (M_ex v))]), ((q 1), aI K 700 (M_tape (M_tp v))), ((q 2), aI K 20 (M_number (M_cd v))), ((q 3), aZ K 5 (M_isTold (M_rd v))), ((q 4), aI K 80 (M_codeSort (M_cd v))), ((q 5), aI K 80 (M_codeA (M_cd v))), ((q 6), aI K 80 (M_codeB (M_cd v))), ((q 7), aI K 80 (M_codeC (M_cd v))), ((q 8), aI K 80 (M_codeName (M_cd v))), ((q 9), aI K 80 (M_codePlace (M_cd v))), ((q 10), aI K 80 (M_codeTo (M_cd v))), ((q 11), aI K 280 (M_labelName (M_cd v))), ((q 12), aI K 280 (M_labelAt (M_cd v))), ((q 13), aI K 64 (M_data (M_cd v))), ((q 14), aZ K 32 (M_hasData (M_rd v))), ((q 15), aI K 314 f32), ((q 16), aI K 314 (M_aside (M_ex v))), ((q 17), aI K 314 (M_further (M_ex v))), ((q 18), aI K 314 (M_image (M_im v))), ((q 19), aI K 3 (M_sizeNow (M_rn v))), ((q 20), aI K 8 (M_aloneRegister (M_al v))), ((q 21), aI K 4 (M_aloneReal (M_al v))), ((q 22), aI K 32 (M_aloneMemory (M_al v))), ((q 23), aI K 999 (M_aloneOutput (M_al v)))]) ([(0, .ref (q 0))]) ([]) 186) → ∀ (n154 : Nat) (x30 : Int32) (f31 : (Nat → Int32)), f_M_alarms_L154 k154_186 n154 x30 f31 = some o_v → WW p l e rm_M_alarms s m args below meth c D A 5 0 0 (MQ below (QV D K A (cl_M K q o_v)) args s 0 0 A) ([((q 0), ob 9 [.int (M_thrown v), .ref (q 1), .int (M_taped (M_tp v)), .ref (q 2), .ref (q 3), .ref (q 4), .ref (q 5), .ref (q 6), .ref (q 7), .ref (q 8), .ref (q 9), .ref (q 10), .ref (q 11), .ref (q 12), .ref (q 13), .ref (q 14), .int (M_lines (M_rd v)), .int (M_size (M_rd v)), .int (M_at (M_rd v)), .int (M_place (M_rd v)), .int (M_sort (M_rd v)), .int (M_value (M_rd v)), .int (M_fault (M_rd v)), .int (M_faultPlace (M_rd v)), .int (M_lastFault (M_lf v)), .int (M_lastPlace (M_lf v)), .ref (q 15), .ref (q 16), .ref (q 17), .ref (q 18), .int (M_hasImage (M_im v)), .int (M_spanNow (M_rn v)), .ref (q 19), .int (M_placeThen (M_rn v)), .int (M_alonePlace (M_al v)), .int (M_aloneSteps (M_al v)), .int (M_aloneOut (M_al v)), .ref (q 20), .ref (q 21), .ref (q 22), .ref (q 23), .int (M_shotAlarm (M_ex v)), .int (M_drawn (M_ex v))]), ((q 1), aI K 700 (M_tape (M_tp v))), ((q 2), aI K 20 (M_number (M_cd v))), ((q 3), aZ K 5 (M_isTold (M_rd v))), ((q 4), aI K 80 (M_codeSort (M_cd v))), ((q 5), aI K 80 (M_codeA (M_cd v))), ((q 6), aI K 80 (M_codeB (M_cd v))), ((q 7), aI K 80 (M_codeC (M_cd v))), ((q 8), aI K 80 (M_codeName (M_cd v))), ((q 9), aI K 80 (M_codePlace (M_cd v))), ((q 10), aI K 80 (M_codeTo (M_cd v))), ((q 11), aI K 280 (M_labelName (M_cd v))), ((q 12), aI K 280 (M_labelAt (M_cd v))), ((q 13), aI K 64 (M_data (M_cd v))), ((q 14), aZ K 32 (M_hasData (M_rd v))), ((q 15), aI K 314 f31), ((q 16), aI K 314 (M_aside (M_ex v))), ((q 17), aI K 314 (M_further (M_ex v))), ((q 18), aI K 314 (M_image (M_im v))), ((q 19), aI K 3 (M_sizeNow (M_rn v))), ((q 20), aI K 8 (M_aloneRegister (M_al v))), ((q 21), aI K 4 (M_aloneReal (M_al v))), ((q 22), aI K 32 (M_aloneMemory (M_al v))), ((q 23), aI K 999 (M_aloneOutput (M_al v)))]) ([(0, .ref (q 0)), (4, .int x30)]) ([]) 154 := by
    intro k154_186 hk154_186 n154
    induction n154 with
    | zero => intro x30 f31 hf; exact (nomatch (show (none : Option (T_M)) = some _ from hf))
    | succ n154 ih154 =>
      intro x30 f31 hf
      rw [f_M_alarms_L154] at hf
      refine r_iload (pc := 154) cx dX10_alarms_154 1 rfl ?_
      refine r_bipush (pc := 156) cx dX10_alarms_156 bp_16 ?_
      refine r_icmp_ge (pc := 158) (tgt := 186) cx dX10_alarms_158 (by decide) (fun h33 => ?_) (fun h33 => ?_)
      · have hf := ifp h33 hf
        refine r_loc (loc' := [(0, .ref (q 0))]) [0] rfl ?_
        exact hk154_186 _ hf
      · have hf := ifn h33 hf
        refine r_aload_n (pc := 161) cx dX10_alarms_161 0 rfl ?_
        refine r_get (pc := 162) cx cf_X10 0 26 rfl (by decide) rfl wd_1342 dX10_alarms_162 ?_
        refine r_iconst (pc := 165) cx dX10_alarms_165 ic_4 ?_
        refine r_iload (pc := 166) cx dX10_alarms_166 1 rfl ?_
        refine r_iadd (pc := 168) cx dX10_alarms_168 ?_
        refine r_aload_n (pc := 169) cx dX10_alarms_169 0 rfl ?_
        refine r_get (pc := 170) cx cf_X10 0 26 rfl (by decide) rfl wd_1342 dX10_alarms_170 ?_
        refine r_bipush (pc := 173) cx dX10_alarms_173 bp_30 ?_
        refine r_iload (pc := 175) cx dX10_alarms_175 1 rfl ?_
        refine r_iadd (pc := 177) cx dX10_alarms_177 ?_
        obtain ⟨h34, hf⟩ := chk_of hf
        refine r_iald (pc := 178) cx 15 rfl h34 dX10_alarms_178 ?_
        obtain ⟨x35, ex35, hf⟩ := nm_of hf
        refine r_nm ex35 ?_
        obtain ⟨h36, hf⟩ := chk_of hf
        obtain ⟨f37, ef37, hf⟩ := nm_of hf
        refine r_iast (pc := 179) (ws' := [((q 0), ob 9 [.int (M_thrown v), .ref (q 1), .int (M_taped (M_tp v)), .ref (q 2), .ref (q 3), .ref (q 4), .ref (q 5), .ref (q 6), .ref (q 7), .ref (q 8), .ref (q 9), .ref (q 10), .ref (q 11), .ref (q 12), .ref (q 13), .ref (q 14), .int (M_lines (M_rd v)), .int (M_size (M_rd v)), .int (M_at (M_rd v)), .int (M_place (M_rd v)), .int (M_sort (M_rd v)), .int (M_value (M_rd v)), .int (M_fault (M_rd v)), .int (M_faultPlace (M_rd v)), .int (M_lastFault (M_lf v)), .int (M_lastPlace (M_lf v)), .ref (q 15), .ref (q 16), .ref (q 17), .ref (q 18), .int (M_hasImage (M_im v)), .int (M_spanNow (M_rn v)), .ref (q 19), .int (M_placeThen (M_rn v)), .int (M_alonePlace (M_al v)), .int (M_aloneSteps (M_al v)), .int (M_aloneOut (M_al v)), .ref (q 20), .ref (q 21), .ref (q 22), .ref (q 23), .int (M_shotAlarm (M_ex v)), .int (M_drawn (M_ex v))]), ((q 1), aI K 700 (M_tape (M_tp v))), ((q 2), aI K 20 (M_number (M_cd v))), ((q 3), aZ K 5 (M_isTold (M_rd v))), ((q 4), aI K 80 (M_codeSort (M_cd v))), ((q 5), aI K 80 (M_codeA (M_cd v))), ((q 6), aI K 80 (M_codeB (M_cd v))), ((q 7), aI K 80 (M_codeC (M_cd v))), ((q 8), aI K 80 (M_codeName (M_cd v))), ((q 9), aI K 80 (M_codePlace (M_cd v))), ((q 10), aI K 80 (M_codeTo (M_cd v))), ((q 11), aI K 280 (M_labelName (M_cd v))), ((q 12), aI K 280 (M_labelAt (M_cd v))), ((q 13), aI K 64 (M_data (M_cd v))), ((q 14), aZ K 32 (M_hasData (M_rd v))), ((q 15), aI K 314 f37), ((q 16), aI K 314 (M_aside (M_ex v))), ((q 17), aI K 314 (M_further (M_ex v))), ((q 18), aI K 314 (M_image (M_im v))), ((q 19), aI K 3 (M_sizeNow (M_rn v))), ((q 20), aI K 8 (M_aloneRegister (M_al v))), ((q 21), aI K 4 (M_aloneReal (M_al v))), ((q 22), aI K 32 (M_aloneMemory (M_al v))), ((q 23), aI K 999 (M_aloneOutput (M_al v)))]) cx 15 rfl h36 dX10_alarms_179 ef37 rfl ?_
        obtain ⟨x38, ex38, hf⟩ := nm_of hf
        refine r_iinc (pc := 180) (loc' := [(4, .int x38), (0, .ref (q 0))]) (v := x38) cx dX10_alarms_180 1 rfl ((congrArg (fun z => x30 + z) ic_1).trans ex38.symm) (by decide) rfl ?_
        refine r_goto (pc := 183) (tgt := 154) cx dX10_alarms_183 (by decide) ?_
        refine r_loc (loc' := [(0, .ref (q 0)), (4, .int x38)]) [1, 0] rfl ?_
        exact ih154 _ _ hf
  refine r_loc (loc' := [(0, .ref (q 0)), (4, .int (0 : Int32))]) [1, 0] rfl ?_
  refine hL154 _ (fun f32 hf => ?_) _ _ _ hf
  refine r_iconst (pc := 186) cx dX10_alarms_186 ic_0 ?_
  refine r_istore (pc := 187) (loc' := [(4, .int (0 : Int32)), (0, .ref (q 0))]) cx dX10_alarms_187 (by decide) rfl ?_
  have hL189 : ∀ (k189_222 : (Nat → Int32) → Option (T_M)), (∀ (f41 : (Nat → Int32)), k189_222 f41 = some o_v → WW p l e rm_M_alarms s m args below meth c D A 5 0 0 (MQ below (QV D K A (cl_M K q o_v)) args s 0 0 A) ([((q 0), ob 9 [.int (M_thrown v), .ref (q 1), .int (M_taped (M_tp v)), .ref (q 2), .ref (q 3), .ref (q 4), .ref (q 5), .ref (q 6), .ref (q 7), .ref (q 8), .ref (q 9), .ref (q 10), .ref (q 11), .ref (q 12), .ref (q 13), .ref (q 14), .int (M_lines (M_rd v)), .int (M_size (M_rd v)), .int (M_at (M_rd v)), .int (M_place (M_rd v)), .int (M_sort (M_rd v)), .int (M_value (M_rd v)), .int (M_fault (M_rd v)), .int (M_faultPlace (M_rd v)), .int (M_lastFault (M_lf v)), .int (M_lastPlace (M_lf v)), .ref (q 15), .ref (q 16), .ref (q 17), .ref (q 18), .int (M_hasImage (M_im v)), .int (M_spanNow (M_rn v)), .ref (q 19), .int (M_placeThen (M_rn v)), .int (M_alonePlace (M_al v)), .int (M_aloneSteps (M_al v)), .int (M_aloneOut (M_al v)), .ref (q 20), .ref (q 21), .ref (q 22), .ref (q 23), .int (M_shotAlarm (M_ex v)), .int (M_drawn (M_ex v))]), ((q 1), aI K 700 (M_tape (M_tp v))), ((q 2), aI K 20 (M_number (M_cd v))), ((q 3), aZ K 5 (M_isTold (M_rd v))), ((q 4), aI K 80 (M_codeSort (M_cd v))), ((q 5), aI K 80 (M_codeA (M_cd v))), ((q 6), aI K 80 (M_codeB (M_cd v))), ((q 7), aI K 80 (M_codeC (M_cd v))), ((q 8), aI K 80 (M_codeName (M_cd v))), ((q 9), aI K 80 (M_codePlace (M_cd v))), ((q 10), aI K 80 (M_codeTo (M_cd v))), ((q 11), aI K 280 (M_labelName (M_cd v))), ((q 12), aI K 280 (M_labelAt (M_cd v))), ((q 13), aI K 64 (M_data (M_cd v))), ((q 14), aZ K 32 (M_hasData (M_rd v))), ((q 15), aI K 314 f41), ((q 16), aI K 314 (M_aside (M_ex v))), ((q 17), aI K 314 (M_further (M_ex v))), ((q 18), aI K 314 (M_image (M_im v))), ((q 19), aI K 3 (M_sizeNow (M_rn v))), ((q 20), aI K 8 (M_aloneRegister (M_al v))), ((q 21), aI K 4 (M_aloneReal (M_al v))), ((q 22), aI K 32 (M_aloneMemory (M_al v))), ((q 23), aI K 999 (M_aloneOutput (M_al v)))]) ([(0, .ref (q 0))]) ([]) 222) → ∀ (n189 : Nat) (x39 : Int32) (f40 : (Nat → Int32)), f_M_alarms_L189 k189_222 n189 x39 f40 = some o_v → WW p l e rm_M_alarms s m args below meth c D A 5 0 0 (MQ below (QV D K A (cl_M K q o_v)) args s 0 0 A) ([((q 0), ob 9 [.int (M_thrown v), .ref (q 1), .int (M_taped (M_tp v)), .ref (q 2), .ref (q 3), .ref (q 4), .ref (q 5), .ref (q 6), .ref (q 7), .ref (q 8), .ref (q 9), .ref (q 10), .ref (q 11), .ref (q 12), .ref (q 13), .ref (q 14), .int (M_lines (M_rd v)), .int (M_size (M_rd v)), .int (M_at (M_rd v)), .int (M_place (M_rd v)), .int (M_sort (M_rd v)), .int (M_value (M_rd v)), .int (M_fault (M_rd v)), .int (M_faultPlace (M_rd v)), .int (M_lastFault (M_lf v)), .int (M_lastPlace (M_lf v)), .ref (q 15), .ref (q 16), .ref (q 17), .ref (q 18), .int (M_hasImage (M_im v)), .int (M_spanNow (M_rn v)), .ref (q 19), .int (M_placeThen (M_rn v)), .int (M_alonePlace (M_al v)), .int (M_aloneSteps (M_al v)), .int (M_aloneOut (M_al v)), .ref (q 20), .ref (q 21), .ref (q 22), .ref (q 23), .int (M_shotAlarm (M_ex v)), .int (M_drawn (M_ex v))]), ((q 1), aI K 700 (M_tape (M_tp v))), ((q 2), aI K 20 (M_number (M_cd v))), ((q 3), aZ K 5 (M_isTold (M_rd v))), ((q 4), aI K 80 (M_codeSort (M_cd v))), ((q 5), aI K 80 (M_codeA (M_cd v))), ((q 6), aI K 80 (M_codeB (M_cd v))), ((q 7), aI K 80 (M_codeC (M_cd v))), ((q 8), aI K 80 (M_codeName (M_cd v))), ((q 9), aI K 80 (M_codePlace (M_cd v))), ((q 10), aI K 80 (M_codeTo (M_cd v))), ((q 11), aI K 280 (M_labelName (M_cd v))), ((q 12), aI K 280 (M_labelAt (M_cd v))), ((q 13), aI K 64 (M_data (M_cd v))), ((q 14), aZ K 32 (M_hasData (M_rd v))), ((q 15), aI K 314 f40), ((q 16), aI K 314 (M_aside (M_ex v))), ((q 17), aI K 314 (M_further (M_ex v))), ((q 18), aI K 314 (M_image (M_im v))), ((q 19), aI K 3 (M_sizeNow (M_rn v))), ((q 20), aI K 8 (M_aloneRegister (M_al v))), ((q 21), aI K 4 (M_aloneReal (M_al v))), ((q 22), aI K 32 (M_aloneMemory (M_al v))), ((q 23), aI K 999 (M_aloneOutput (M_al v)))]) ([(0, .ref (q 0)), (4, .int x39)]) ([]) 189 := by
    intro k189_222 hk189_222 n189
    induction n189 with
    | zero => intro x39 f40 hf; exact (nomatch (show (none : Option (T_M)) = some _ from hf))
    | succ n189 ih189 =>
      intro x39 f40 hf
      rw [f_M_alarms_L189] at hf
      refine r_iload (pc := 189) cx dX10_alarms_189 1 rfl ?_
      refine r_bipush (pc := 191) cx dX10_alarms_191 bp_8 ?_
      refine r_icmp_ge (pc := 193) (tgt := 222) cx dX10_alarms_193 (by decide) (fun h42 => ?_) (fun h42 => ?_)
      · have hf := ifp h42 hf
        refine r_loc (loc' := [(0, .ref (q 0))]) [0] rfl ?_
        exact hk189_222 _ hf
      · have hf := ifn h42 hf
        refine r_aload_n (pc := 196) cx dX10_alarms_196 0 rfl ?_
        refine r_get (pc := 197) cx cf_X10 0 26 rfl (by decide) rfl wd_1342 dX10_alarms_197 ?_
        refine r_bipush (pc := 200) cx dX10_alarms_200 bp_20 ?_
        refine r_iload (pc := 202) cx dX10_alarms_202 1 rfl ?_
        refine r_iadd (pc := 204) cx dX10_alarms_204 ?_
        refine r_aload_n (pc := 205) cx dX10_alarms_205 0 rfl ?_
        refine r_get (pc := 206) cx cf_X10 0 26 rfl (by decide) rfl wd_1342 dX10_alarms_206 ?_
        refine r_bipush (pc := 209) cx dX10_alarms_209 bp_46 ?_
        refine r_iload (pc := 211) cx dX10_alarms_211 1 rfl ?_
        refine r_iadd (pc := 213) cx dX10_alarms_213 ?_
        obtain ⟨h43, hf⟩ := chk_of hf
        refine r_iald (pc := 214) cx 15 rfl h43 dX10_alarms_214 ?_
        obtain ⟨x44, ex44, hf⟩ := nm_of hf
        refine r_nm ex44 ?_
        obtain ⟨h45, hf⟩ := chk_of hf
        obtain ⟨f46, ef46, hf⟩ := nm_of hf
        refine r_iast (pc := 215) (ws' := [((q 0), ob 9 [.int (M_thrown v), .ref (q 1), .int (M_taped (M_tp v)), .ref (q 2), .ref (q 3), .ref (q 4), .ref (q 5), .ref (q 6), .ref (q 7), .ref (q 8), .ref (q 9), .ref (q 10), .ref (q 11), .ref (q 12), .ref (q 13), .ref (q 14), .int (M_lines (M_rd v)), .int (M_size (M_rd v)), .int (M_at (M_rd v)), .int (M_place (M_rd v)), .int (M_sort (M_rd v)), .int (M_value (M_rd v)), .int (M_fault (M_rd v)), .int (M_faultPlace (M_rd v)), .int (M_lastFault (M_lf v)), .int (M_lastPlace (M_lf v)), .ref (q 15), .ref (q 16), .ref (q 17), .ref (q 18), .int (M_hasImage (M_im v)), .int (M_spanNow (M_rn v)), .ref (q 19), .int (M_placeThen (M_rn v)), .int (M_alonePlace (M_al v)), .int (M_aloneSteps (M_al v)), .int (M_aloneOut (M_al v)), .ref (q 20), .ref (q 21), .ref (q 22), .ref (q 23), .int (M_shotAlarm (M_ex v)), .int (M_drawn (M_ex v))]), ((q 1), aI K 700 (M_tape (M_tp v))), ((q 2), aI K 20 (M_number (M_cd v))), ((q 3), aZ K 5 (M_isTold (M_rd v))), ((q 4), aI K 80 (M_codeSort (M_cd v))), ((q 5), aI K 80 (M_codeA (M_cd v))), ((q 6), aI K 80 (M_codeB (M_cd v))), ((q 7), aI K 80 (M_codeC (M_cd v))), ((q 8), aI K 80 (M_codeName (M_cd v))), ((q 9), aI K 80 (M_codePlace (M_cd v))), ((q 10), aI K 80 (M_codeTo (M_cd v))), ((q 11), aI K 280 (M_labelName (M_cd v))), ((q 12), aI K 280 (M_labelAt (M_cd v))), ((q 13), aI K 64 (M_data (M_cd v))), ((q 14), aZ K 32 (M_hasData (M_rd v))), ((q 15), aI K 314 f46), ((q 16), aI K 314 (M_aside (M_ex v))), ((q 17), aI K 314 (M_further (M_ex v))), ((q 18), aI K 314 (M_image (M_im v))), ((q 19), aI K 3 (M_sizeNow (M_rn v))), ((q 20), aI K 8 (M_aloneRegister (M_al v))), ((q 21), aI K 4 (M_aloneReal (M_al v))), ((q 22), aI K 32 (M_aloneMemory (M_al v))), ((q 23), aI K 999 (M_aloneOutput (M_al v)))]) cx 15 rfl h45 dX10_alarms_215 ef46 rfl ?_
        obtain ⟨x47, ex47, hf⟩ := nm_of hf
        refine r_iinc (pc := 216) (loc' := [(4, .int x47), (0, .ref (q 0))]) (v := x47) cx dX10_alarms_216 1 rfl ((congrArg (fun z => x39 + z) ic_1).trans ex47.symm) (by decide) rfl ?_
        refine r_goto (pc := 219) (tgt := 189) cx dX10_alarms_219 (by decide) ?_
        refine r_loc (loc' := [(0, .ref (q 0)), (4, .int x47)]) [1, 0] rfl ?_
        exact ih189 _ _ hf
  refine r_loc (loc' := [(0, .ref (q 0)), (4, .int (0 : Int32))]) [1, 0] rfl ?_
  refine hL189 _ (fun f41 hf => ?_) _ _ _ hf
  refine r_aload_n (pc := 222) cx dX10_alarms_222 0 rfl ?_
  obtain ⟨v48, hc49, hf⟩ := bd_of hf
  refine r_Vv (pc := 223) (ws' := [((q 0), ob 9 [.int (M_thrown v48), .ref (q 1), .int (M_taped (M_tp v48)), .ref (q 2), .ref (q 3), .ref (q 4), .ref (q 5), .ref (q 6), .ref (q 7), .ref (q 8), .ref (q 9), .ref (q 10), .ref (q 11), .ref (q 12), .ref (q 13), .ref (q 14), .int (M_lines (M_rd v48)), .int (M_size (M_rd v48)), .int (M_at (M_rd v48)), .int (M_place (M_rd v48)), .int (M_sort (M_rd v48)), .int (M_value (M_rd v48)), .int (M_fault (M_rd v48)), .int (M_faultPlace (M_rd v48)), .int (M_lastFault (M_lf v48)), .int (M_lastPlace (M_lf v48)), .ref (q 15), .ref (q 16), .ref (q 17), .ref (q 18), .int (M_hasImage (M_im v48)), .int (M_spanNow (M_rn v48)), .ref (q 19), .int (M_placeThen (M_rn v48)), .int (M_alonePlace (M_al v48)), .int (M_aloneSteps (M_al v48)), .int (M_aloneOut (M_al v48)), .ref (q 20), .ref (q 21), .ref (q 22), .ref (q 23), .int (M_shotAlarm (M_ex v48)), .int (M_drawn (M_ex v48))]), ((q 1), aI K 700 (M_tape (M_tp v48))), ((q 2), aI K 20 (M_number (M_cd v48))), ((q 3), aZ K 5 (M_isTold (M_rd v48))), ((q 4), aI K 80 (M_codeSort (M_cd v48))), ((q 5), aI K 80 (M_codeA (M_cd v48))), ((q 6), aI K 80 (M_codeB (M_cd v48))), ((q 7), aI K 80 (M_codeC (M_cd v48))), ((q 8), aI K 80 (M_codeName (M_cd v48))), ((q 9), aI K 80 (M_codePlace (M_cd v48))), ((q 10), aI K 80 (M_codeTo (M_cd v48))), ((q 11), aI K 280 (M_labelName (M_cd v48))), ((q 12), aI K 280 (M_labelAt (M_cd v48))), ((q 13), aI K 64 (M_data (M_cd v48))), ((q 14), aZ K 32 (M_hasData (M_rd v48))), ((q 15), aI K 314 (M_s (M_rn v48))), ((q 16), aI K 314 (M_aside (M_ex v48))), ((q 17), aI K 314 (M_further (M_ex v48))), ((q 18), aI K 314 (M_image (M_im v48))), ((q 19), aI K 3 (M_sizeNow (M_rn v48))), ((q 20), aI K 8 (M_aloneRegister (M_al v48))), ((q 21), aI K 4 (M_aloneReal (M_al v48))), ((q 22), aI K 32 (M_aloneMemory (M_al v48))), ((q 23), aI K 999 (M_aloneOutput (M_al v48)))]) cx [] [] [0, 1, 2, 3, 4, 5, 6, 7, 8, 9, 10, 11, 12, 13, 14, 15, 16, 17, 18, 19, 20, 21, 22, 23] (m_M_empties l D K q ((M_tp v), (M_rd v), (M_lf v), (M_cd v), (f41, (M_spanNow (M_rn v)), (M_sizeNow (M_rn v)), (M_placeThen (M_rn v))), (M_ex v), (M_im v), (M_al v), (M_thrown v)) hc49) yv_X10_empties wd_1687 ⟨rfl, rfl⟩ (by decide) rfl rfl rfl (by decide) 0 rfl rfl rfl (Nat.le_of_ble_eq_true rfl) dX10_alarms_223 ?_
  refine r_aload_n (pc := 226) cx dX10_alarms_226 0 rfl ?_
  obtain ⟨v50, hc51, hf⟩ := bd_of hf
  refine r_Vv (pc := 227) (ws' := [((q 0), ob 9 [.int (M_thrown v50), .ref (q 1), .int (M_taped (M_tp v50)), .ref (q 2), .ref (q 3), .ref (q 4), .ref (q 5), .ref (q 6), .ref (q 7), .ref (q 8), .ref (q 9), .ref (q 10), .ref (q 11), .ref (q 12), .ref (q 13), .ref (q 14), .int (M_lines (M_rd v50)), .int (M_size (M_rd v50)), .int (M_at (M_rd v50)), .int (M_place (M_rd v50)), .int (M_sort (M_rd v50)), .int (M_value (M_rd v50)), .int (M_fault (M_rd v50)), .int (M_faultPlace (M_rd v50)), .int (M_lastFault (M_lf v50)), .int (M_lastPlace (M_lf v50)), .ref (q 15), .ref (q 16), .ref (q 17), .ref (q 18), .int (M_hasImage (M_im v50)), .int (M_spanNow (M_rn v50)), .ref (q 19), .int (M_placeThen (M_rn v50)), .int (M_alonePlace (M_al v50)), .int (M_aloneSteps (M_al v50)), .int (M_aloneOut (M_al v50)), .ref (q 20), .ref (q 21), .ref (q 22), .ref (q 23), .int (M_shotAlarm (M_ex v50)), .int (M_drawn (M_ex v50))]), ((q 1), aI K 700 (M_tape (M_tp v50))), ((q 2), aI K 20 (M_number (M_cd v50))), ((q 3), aZ K 5 (M_isTold (M_rd v50))), ((q 4), aI K 80 (M_codeSort (M_cd v50))), ((q 5), aI K 80 (M_codeA (M_cd v50))), ((q 6), aI K 80 (M_codeB (M_cd v50))), ((q 7), aI K 80 (M_codeC (M_cd v50))), ((q 8), aI K 80 (M_codeName (M_cd v50))), ((q 9), aI K 80 (M_codePlace (M_cd v50))), ((q 10), aI K 80 (M_codeTo (M_cd v50))), ((q 11), aI K 280 (M_labelName (M_cd v50))), ((q 12), aI K 280 (M_labelAt (M_cd v50))), ((q 13), aI K 64 (M_data (M_cd v50))), ((q 14), aZ K 32 (M_hasData (M_rd v50))), ((q 15), aI K 314 (M_s (M_rn v50))), ((q 16), aI K 314 (M_aside (M_ex v50))), ((q 17), aI K 314 (M_further (M_ex v50))), ((q 18), aI K 314 (M_image (M_im v50))), ((q 19), aI K 3 (M_sizeNow (M_rn v50))), ((q 20), aI K 8 (M_aloneRegister (M_al v50))), ((q 21), aI K 4 (M_aloneReal (M_al v50))), ((q 22), aI K 32 (M_aloneMemory (M_al v50))), ((q 23), aI K 999 (M_aloneOutput (M_al v50)))]) cx [] [] [0, 1, 2, 3, 4, 5, 6, 7, 8, 9, 10, 11, 12, 13, 14, 15, 16, 17, 18, 19, 20, 21, 22, 23] (m_M_sticks l D K q v48 hc51) yv_X10_sticks wd_1667 ⟨rfl, rfl⟩ (by decide) rfl rfl rfl (by decide) 0 rfl rfl rfl (Nat.le_of_ble_eq_true rfl) dX10_alarms_227 ?_
  refine r_aload_n (pc := 230) cx dX10_alarms_230 0 rfl ?_
  refine r_get (pc := 231) cx cf_X10 0 26 rfl (by decide) rfl wd_1342 dX10_alarms_231 ?_
  refine r_sipush (pc := 234) cx dX10_alarms_234 sp_222 ?_
  refine r_iald (pc := 237) cx 15 rfl (by decide) dX10_alarms_237 ?_
  refine r_aload_n (pc := 238) cx dX10_alarms_238 0 rfl ?_
  refine r_get (pc := 239) cx cf_X10 0 3 rfl (by decide) rfl wd_1319 dX10_alarms_239 ?_
  refine r_bipush (pc := 242) cx dX10_alarms_242 bp_6 ?_
  refine r_iald (pc := 244) cx 2 rfl (by decide) dX10_alarms_244 ?_
  refine r_icmp_ne (pc := 245) (tgt := 257) cx dX10_alarms_245 (by decide) (fun h52 => ?_) (fun h52 => ?_)
  · have hf := ifn h52 hf
    cases hf
    exact r_vret (pc := 257) cx rfl dX10_alarms_257
  · have hf := ifp h52 hf
    refine r_aload_n (pc := 248) cx dX10_alarms_248 0 rfl ?_
    refine r_get (pc := 249) cx cf_X10 0 26 rfl (by decide) rfl wd_1342 dX10_alarms_249 ?_
    refine r_sipush (pc := 252) cx dX10_alarms_252 sp_227 ?_
    refine r_iconst (pc := 255) cx dX10_alarms_255 ic_1 ?_
    obtain ⟨f53, ef53, hf⟩ := nm_of hf
    refine r_iast (pc := 256) (ws' := [((q 0), ob 9 [.int (M_thrown v50), .ref (q 1), .int (M_taped (M_tp v50)), .ref (q 2), .ref (q 3), .ref (q 4), .ref (q 5), .ref (q 6), .ref (q 7), .ref (q 8), .ref (q 9), .ref (q 10), .ref (q 11), .ref (q 12), .ref (q 13), .ref (q 14), .int (M_lines (M_rd v50)), .int (M_size (M_rd v50)), .int (M_at (M_rd v50)), .int (M_place (M_rd v50)), .int (M_sort (M_rd v50)), .int (M_value (M_rd v50)), .int (M_fault (M_rd v50)), .int (M_faultPlace (M_rd v50)), .int (M_lastFault (M_lf v50)), .int (M_lastPlace (M_lf v50)), .ref (q 15), .ref (q 16), .ref (q 17), .ref (q 18), .int (M_hasImage (M_im v50)), .int (M_spanNow (M_rn v50)), .ref (q 19), .int (M_placeThen (M_rn v50)), .int (M_alonePlace (M_al v50)), .int (M_aloneSteps (M_al v50)), .int (M_aloneOut (M_al v50)), .ref (q 20), .ref (q 21), .ref (q 22), .ref (q 23), .int (M_shotAlarm (M_ex v50)), .int (M_drawn (M_ex v50))]), ((q 1), aI K 700 (M_tape (M_tp v50))), ((q 2), aI K 20 (M_number (M_cd v50))), ((q 3), aZ K 5 (M_isTold (M_rd v50))), ((q 4), aI K 80 (M_codeSort (M_cd v50))), ((q 5), aI K 80 (M_codeA (M_cd v50))), ((q 6), aI K 80 (M_codeB (M_cd v50))), ((q 7), aI K 80 (M_codeC (M_cd v50))), ((q 8), aI K 80 (M_codeName (M_cd v50))), ((q 9), aI K 80 (M_codePlace (M_cd v50))), ((q 10), aI K 80 (M_codeTo (M_cd v50))), ((q 11), aI K 280 (M_labelName (M_cd v50))), ((q 12), aI K 280 (M_labelAt (M_cd v50))), ((q 13), aI K 64 (M_data (M_cd v50))), ((q 14), aZ K 32 (M_hasData (M_rd v50))), ((q 15), aI K 314 f53), ((q 16), aI K 314 (M_aside (M_ex v50))), ((q 17), aI K 314 (M_further (M_ex v50))), ((q 18), aI K 314 (M_image (M_im v50))), ((q 19), aI K 3 (M_sizeNow (M_rn v50))), ((q 20), aI K 8 (M_aloneRegister (M_al v50))), ((q 21), aI K 4 (M_aloneReal (M_al v50))), ((q 22), aI K 32 (M_aloneMemory (M_al v50))), ((q 23), aI K 999 (M_aloneOutput (M_al v50)))]) cx 15 rfl (by decide) dX10_alarms_256 ef53 rfl ?_
    cases hf
    exact r_vret (pc := 257) cx rfl dX10_alarms_257
theorem yv_X10_alarms : YV yX10_alarms cX10_alarms 5 (none) 3 := ⟨⟨by decide +kernel, by decide +kernel, by decide +kernel⟩, wd_1694, wd_102, wd_1693, wd_73⟩
def f_M_isOver (v : T_M) : Option (Int32) :=
  (if ((M_s (M_rn v)) (226 : Int32).toNatClampNeg) = (1 : Int32) then (some (1 : Int32)) else (if ((M_s (M_rn v)) (227 : Int32).toNatClampNeg) = (1 : Int32) then (some (1 : Int32)) else (some (0 : Int32))))
abbrev rm_M_isOver : Room := { frames := 0, cells := 0, slots := 0, locals := 0 }
set_option maxRecDepth 100000 in
set_option maxHeartbeats 4000000 in
theorem m_M_isOver (l : Launch) (D : va_G) (K : Nat → ClassId) (q : Nat → Nat) (v : T_M) {r_ : Int32} (hf : f_M_isOver v = some r_) : MI l yX10_isOver cX10_isOver 1 (some .boolean) rm_M_isOver D K [.ref (q 0)] (cl_M K q v) r_ (cl_M K q v) := by
  refine MI_of (loc0 := [(0, .ref (q 0))]) (by decide +kernel) rfl (Nat.le_of_ble_eq_true rfl) ?_
  intro p e s m args below meth c A cx
  unfold f_M_isOver at hf
  refine r_ws (ws' := [((q 0), ob 9 [.int (M_thrown v), .ref (q 1), .int (M_taped (M_tp v)), .ref (q 2), .ref (q 3), .ref (q 4), .ref (q 5), .ref (q 6), .ref (q 7), .ref (q 8), .ref (q 9), .ref (q 10), .ref (q 11), .ref (q 12), .ref (q 13), .ref (q 14), .int (M_lines (M_rd v)), .int (M_size (M_rd v)), .int (M_at (M_rd v)), .int (M_place (M_rd v)), .int (M_sort (M_rd v)), .int (M_value (M_rd v)), .int (M_fault (M_rd v)), .int (M_faultPlace (M_rd v)), .int (M_lastFault (M_lf v)), .int (M_lastPlace (M_lf v)), .ref (q 15), .ref (q 16), .ref (q 17), .ref (q 18), .int (M_hasImage (M_im v)), .int (M_spanNow (M_rn v)), .ref (q 19), .int (M_placeThen (M_rn v)), .int (M_alonePlace (M_al v)), .int (M_aloneSteps (M_al v)), .int (M_aloneOut (M_al v)), .ref (q 20), .ref (q 21), .ref (q 22), .ref (q 23), .int (M_shotAlarm (M_ex v)), .int (M_drawn (M_ex v))]), ((q 1), aI K 700 (M_tape (M_tp v))), ((q 2), aI K 20 (M_number (M_cd v))), ((q 3), aZ K 5 (M_isTold (M_rd v))), ((q 4), aI K 80 (M_codeSort (M_cd v))), ((q 5), aI K 80 (M_codeA (M_cd v))), ((q 6), aI K 80 (M_codeB (M_cd v))), ((q 7), aI K 80 (M_codeC (M_cd v))), ((q 8), aI K 80 (M_codeName (M_cd v))), ((q 9), aI K 80 (M_codePlace (M_cd v))), ((q 10), aI K 80 (M_codeTo (M_cd v))), ((q 11), aI K 280 (M_labelName (M_cd v))), ((q 12), aI K 280 (M_labelAt (M_cd v))), ((q 13), aI K 64 (M_data (M_cd v))), ((q 14), aZ K 32 (M_hasData (M_rd v))), ((q 15), aI K 314 (M_s (M_rn v))), ((q 16), aI K 314 (M_aside (M_ex v))), ((q 17), aI K 314 (M_further (M_ex v))), ((q 18), aI K 314 (M_image (M_im v))), ((q 19), aI K 3 (M_sizeNow (M_rn v))), ((q 20), aI K 8 (M_aloneRegister (M_al v))), ((q 21), aI K 4 (M_aloneReal (M_al v))), ((q 22), aI K 32 (M_aloneMemory (M_al v))), ((q 23), aI K 999 (M_aloneOutput (M_al v)))]) rfl ?_
  refine r_aload_n (pc := 0) cx dX10_isOver_0 0 rfl ?_
  refine r_get (pc := 1) cx cf_X10 0 26 rfl (by decide) rfl wd_1342 dX10_isOver_1 ?_
  refine r_sipush (pc := 4) cx dX10_isOver_4 sp_226 ?_
  refine r_iald (pc := 7) cx 15 rfl (by decide) dX10_isOver_7 ?_
  refine r_iconst (pc := 8) cx dX10_isOver_8 ic_1 ?_
  refine r_icmp_eq (pc := 9) (tgt := 24) cx dX10_isOver_9 (by decide) (fun h1 => ?_) (fun h1 => ?_)
  · have hf := ifp h1 hf
    refine r_iconst (pc := 24) cx dX10_isOver_24 ic_1 ?_
    refine r_goto (pc := 25) (tgt := 29) cx dX10_isOver_25 (by decide) ?_
    cases hf
    exact r_zret (pc := 29) cx (Or.inr rfl) rfl rfl dX10_isOver_29
  · have hf := ifn h1 hf
    refine r_aload_n (pc := 12) cx dX10_isOver_12 0 rfl ?_
    refine r_get (pc := 13) cx cf_X10 0 26 rfl (by decide) rfl wd_1342 dX10_isOver_13 ?_
    refine r_sipush (pc := 16) cx dX10_isOver_16 sp_227 ?_
    refine r_iald (pc := 19) cx 15 rfl (by decide) dX10_isOver_19 ?_
    refine r_iconst (pc := 20) cx dX10_isOver_20 ic_1 ?_
    refine r_icmp_ne (pc := 21) (tgt := 28) cx dX10_isOver_21 (by decide) (fun h2 => ?_) (fun h2 => ?_)
    · have hf := ifn h2 hf
      refine r_iconst (pc := 28) cx dX10_isOver_28 ic_0 ?_
      cases hf
      exact r_zret (pc := 29) cx (Or.inl rfl) rfl rfl dX10_isOver_29
    · have hf := ifp h2 hf
      refine r_iconst (pc := 24) cx dX10_isOver_24 ic_1 ?_
      refine r_goto (pc := 25) (tgt := 29) cx dX10_isOver_25 (by decide) ?_
      cases hf
      exact r_zret (pc := 29) cx (Or.inr rfl) rfl rfl dX10_isOver_29
theorem yv_X10_isOver : YV yX10_isOver cX10_isOver 1 (some .boolean) 0 := ⟨⟨by decide +kernel, by decide +kernel, by decide +kernel⟩, wd_1575, wd_102, wd_1574, wd_53⟩
def f_M_turns (v : T_M) (a1 : Int32) : Option (Int32 × T_M) :=
  (bd (f_M_isOver v) fun (r1 : Int32) => (if r1 = (0 : Int32) then (nm ((M_s (M_rn v)) (2 : Int32).toNatClampNeg) fun (x4 : Int32) => (nm ((M_s (M_rn v)) (3 : Int32).toNatClampNeg) fun (x5 : Int32) => (nm (((M_s (M_rn v)) (219 : Int32).toNatClampNeg) + (1 : Int32)) fun (x6 : Int32) => (nm (upd (M_s (M_rn v)) (219 : Int32).toNatClampNeg x6) fun (f7 : Nat → Int32) => (nm (fun (x8 : Int32) (v9 : T_M) => ((nm (fun (v11 : T_M) => ((bd (f_M_ahead v11) fun (r13 : Int32) => (nm (((M_s (M_rn v11)) (230 : Int32).toNatClampNeg) + r13) fun (x15 : Int32) => (nm (upd (M_s (M_rn v11)) (230 : Int32).toNatClampNeg x15) fun (f16 : Nat → Int32) => (bd (f_M_ahead ((M_tp v11), (M_rd v11), (M_lf v11), (M_cd v11), (f16, (M_spanNow (M_rn v11)), (M_sizeNow (M_rn v11)), (M_placeThen (M_rn v11))), (M_ex v11), (M_im v11), (M_al v11), (M_thrown v11))) fun (r17 : Int32) => (if r17 ≤ (f16 (223 : Int32).toNatClampNeg) then (nm (f16 (223 : Int32).toNatClampNeg) fun (x20 : Int32) => (nm (upd f16 (223 : Int32).toNatClampNeg x20) fun (f21 : Nat → Int32) => (some ((1 : Int32), ((M_tp v11), (M_rd v11), (M_lf v11), (M_cd v11), (f21, (M_spanNow (M_rn v11)), (M_sizeNow (M_rn v11)), (M_placeThen (M_rn v11))), (M_ex v11), (M_im v11), (M_al v11), (M_thrown v11)))))) else (bd (f_M_ahead ((M_tp v11), (M_rd v11), (M_lf v11), (M_cd v11), (f16, (M_spanNow (M_rn v11)), (M_sizeNow (M_rn v11)), (M_placeThen (M_rn v11))), (M_ex v11), (M_im v11), (M_al v11), (M_thrown v11))) fun (r22 : Int32) => (nm (upd f16 (223 : Int32).toNatClampNeg r22) fun (f24 : Nat → Int32) => (some ((1 : Int32), ((M_tp v11), (M_rd v11), (M_lf v11), (M_cd v11), (f24, (M_spanNow (M_rn v11)), (M_sizeNow (M_rn v11)), (M_placeThen (M_rn v11))), (M_ex v11), (M_im v11), (M_al v11), (M_thrown v11))))))))))) : Option (Int32 × T_M))) fun J12 => (if x8 = (0 : Int32) then (J12 v9) else (bd (f_M_alarms v9 x8 x4 x5) fun (v26 : T_M) => (J12 v26)))) : Option (Int32 × T_M))) fun J10 => (if a1 = (0 : Int32) then (bd (f_M_trailerWhy ((M_tp v), (M_rd v), (M_lf v), (M_cd v), (f7, (M_spanNow (M_rn v)), (M_sizeNow (M_rn v)), (M_placeThen (M_rn v))), (M_ex v), (M_im v), (M_al v), (M_thrown v))) fun (r50 : Int32) => (if r50 = (0 : Int32) then (nm ((f7 (229 : Int32).toNatClampNeg) + (1 : Int32)) fun (x74 : Int32) => (nm (upd f7 (229 : Int32).toNatClampNeg x74) fun (f75 : Nat → Int32) => (bd2 (f_M_stepped ((M_tp v), (M_rd v), (M_lf v), (M_cd v), (f75, (M_spanNow (M_rn v)), (M_sizeNow (M_rn v)), (M_placeThen (M_rn v))), (M_ex v), (M_im v), (M_al v), (M_thrown v)) (1 : Int32)) fun (r76 : Int32) (v77 : T_M) => (J10 r76 v77)))) else (if a1 = (0 : Int32) then (bd (f_M_leaderWhy ((M_tp v), (M_rd v), (M_lf v), (M_cd v), (f7, (M_spanNow (M_rn v)), (M_sizeNow (M_rn v)), (M_placeThen (M_rn v))), (M_ex v), (M_im v), (M_al v), (M_thrown v))) fun (r60 : Int32) => (if r60 = (0 : Int32) then (nm ((f7 (228 : Int32).toNatClampNeg) + (1 : Int32)) fun (x69 : Int32) => (nm (upd f7 (228 : Int32).toNatClampNeg x69) fun (f70 : Nat → Int32) => (bd2 (f_M_stepped ((M_tp v), (M_rd v), (M_lf v), (M_cd v), (f70, (M_spanNow (M_rn v)), (M_sizeNow (M_rn v)), (M_placeThen (M_rn v))), (M_ex v), (M_im v), (M_al v), (M_thrown v)) (0 : Int32)) fun (r71 : Int32) (v72 : T_M) => (J10 r71 v72)))) else (if a1 = (0 : Int32) then (bd (f_M_wrongHere ((M_tp v), (M_rd v), (M_lf v), (M_cd v), (f7, (M_spanNow (M_rn v)), (M_sizeNow (M_rn v)), (M_placeThen (M_rn v))), (M_ex v), (M_im v), (M_al v), (M_thrown v))) fun (r64 : Int32) => (if r64 = (0 : Int32) then (bd (f_M_passes ((M_tp v), (M_rd v), (M_lf v), (M_cd v), (f7, (M_spanNow (M_rn v)), (M_sizeNow (M_rn v)), (M_placeThen (M_rn v))), (M_ex v), (M_im v), (M_al v), (M_thrown v))) fun (v67 : T_M) => (J10 r64 v67)) else (J10 r64 ((M_tp v), (M_rd v), (M_lf v), (M_cd v), (f7, (M_spanNow (M_rn v)), (M_sizeNow (M_rn v)), (M_placeThen (M_rn v))), (M_ex v), (M_im v), (M_al v), (M_thrown v))))) else (J10 a1 ((M_tp v), (M_rd v), (M_lf v), (M_cd v), (f7, (M_spanNow (M_rn v)), (M_sizeNow (M_rn v)), (M_placeThen (M_rn v))), (M_ex v), (M_im v), (M_al v), (M_thrown v)))))) else (if a1 = (0 : Int32) then (bd (f_M_wrongHere ((M_tp v), (M_rd v), (M_lf v), (M_cd v), (f7, (M_spanNow (M_rn v)), (M_sizeNow (M_rn v)), (M_placeThen (M_rn v))), (M_ex v), (M_im v), (M_al v), (M_thrown v))) fun (r55 : Int32) => (if r55 = (0 : Int32) then (bd (f_M_passes ((M_tp v), (M_rd v), (M_lf v), (M_cd v), (f7, (M_spanNow (M_rn v)), (M_sizeNow (M_rn v)), (M_placeThen (M_rn v))), (M_ex v), (M_im v), (M_al v), (M_thrown v))) fun (v58 : T_M) => (J10 r55 v58)) else (J10 r55 ((M_tp v), (M_rd v), (M_lf v), (M_cd v), (f7, (M_spanNow (M_rn v)), (M_sizeNow (M_rn v)), (M_placeThen (M_rn v))), (M_ex v), (M_im v), (M_al v), (M_thrown v))))) else (J10 a1 ((M_tp v), (M_rd v), (M_lf v), (M_cd v), (f7, (M_spanNow (M_rn v)), (M_sizeNow (M_rn v)), (M_placeThen (M_rn v))), (M_ex v), (M_im v), (M_al v), (M_thrown v))))))) else (if a1 = (0 : Int32) then (bd (f_M_leaderWhy ((M_tp v), (M_rd v), (M_lf v), (M_cd v), (f7, (M_spanNow (M_rn v)), (M_sizeNow (M_rn v)), (M_placeThen (M_rn v))), (M_ex v), (M_im v), (M_al v), (M_thrown v))) fun (r36 : Int32) => (if r36 = (0 : Int32) then (nm ((f7 (228 : Int32).toNatClampNeg) + (1 : Int32)) fun (x45 : Int32) => (nm (upd f7 (228 : Int32).toNatClampNeg x45) fun (f46 : Nat → Int32) => (bd2 (f_M_stepped ((M_tp v), (M_rd v), (M_lf v), (M_cd v), (f46, (M_spanNow (M_rn v)), (M_sizeNow (M_rn v)), (M_placeThen (M_rn v))), (M_ex v), (M_im v), (M_al v), (M_thrown v)) (0 : Int32)) fun (r47 : Int32) (v48 : T_M) => (J10 r47 v48)))) else (if a1 = (0 : Int32) then (bd (f_M_wrongHere ((M_tp v), (M_rd v), (M_lf v), (M_cd v), (f7, (M_spanNow (M_rn v)), (M_sizeNow (M_rn v)), (M_placeThen (M_rn v))), (M_ex v), (M_im v), (M_al v), (M_thrown v))) fun (r40 : Int32) => (if r40 = (0 : Int32) then (bd (f_M_passes ((M_tp v), (M_rd v), (M_lf v), (M_cd v), (f7, (M_spanNow (M_rn v)), (M_sizeNow (M_rn v)), (M_placeThen (M_rn v))), (M_ex v), (M_im v), (M_al v), (M_thrown v))) fun (v43 : T_M) => (J10 r40 v43)) else (J10 r40 ((M_tp v), (M_rd v), (M_lf v), (M_cd v), (f7, (M_spanNow (M_rn v)), (M_sizeNow (M_rn v)), (M_placeThen (M_rn v))), (M_ex v), (M_im v), (M_al v), (M_thrown v))))) else (J10 a1 ((M_tp v), (M_rd v), (M_lf v), (M_cd v), (f7, (M_spanNow (M_rn v)), (M_sizeNow (M_rn v)), (M_placeThen (M_rn v))), (M_ex v), (M_im v), (M_al v), (M_thrown v)))))) else (if a1 = (0 : Int32) then (bd (f_M_wrongHere ((M_tp v), (M_rd v), (M_lf v), (M_cd v), (f7, (M_spanNow (M_rn v)), (M_sizeNow (M_rn v)), (M_placeThen (M_rn v))), (M_ex v), (M_im v), (M_al v), (M_thrown v))) fun (r31 : Int32) => (if r31 = (0 : Int32) then (bd (f_M_passes ((M_tp v), (M_rd v), (M_lf v), (M_cd v), (f7, (M_spanNow (M_rn v)), (M_sizeNow (M_rn v)), (M_placeThen (M_rn v))), (M_ex v), (M_im v), (M_al v), (M_thrown v))) fun (v34 : T_M) => (J10 r31 v34)) else (J10 r31 ((M_tp v), (M_rd v), (M_lf v), (M_cd v), (f7, (M_spanNow (M_rn v)), (M_sizeNow (M_rn v)), (M_placeThen (M_rn v))), (M_ex v), (M_im v), (M_al v), (M_thrown v))))) else (J10 a1 ((M_tp v), (M_rd v), (M_lf v), (M_cd v), (f7, (M_spanNow (M_rn v)), (M_sizeNow (M_rn v)), (M_placeThen (M_rn v))), (M_ex v), (M_im v), (M_al v), (M_thrown v))))))))))) else (some ((0 : Int32), v))))
abbrev rm_M_turns : Room := { frames := 5, cells := 0, slots := 0, locals := 123 }
set_option maxRecDepth 100000 in
set_option maxHeartbeats 4000000 in
theorem m_M_turns (l : Launch) (D : va_G) (K : Nat → ClassId) (q : Nat → Nat) (v : T_M) (a1 : Int32) {r_ : Int32} {o_v : T_M} (hf : f_M_turns v a1 = some (r_, o_v)) : MI l yX10_turns cX10_turns 5 (some .boolean) rm_M_turns D K [.ref (q 0), .int a1] (cl_M K q v) r_ (cl_M K q o_v) := by
  refine MI_of (loc0 := [(0, .ref (q 0)), (1, .int a1)]) (by decide +kernel) rfl (Nat.le_of_ble_eq_true rfl) ?_
  intro p e s m args below meth c A cx
  unfold f_M_turns at hf
  refine r_ws (ws' := [((q 0), ob 9 [.int (M_thrown v), .ref (q 1), .int (M_taped (M_tp v)), .ref (q 2), .ref (q 3), .ref (q 4), .ref (q 5), .ref (q 6), .ref (q 7), .ref (q 8), .ref (q 9), .ref (q 10), .ref (q 11), .ref (q 12), .ref (q 13), .ref (q 14), .int (M_lines (M_rd v)), .int (M_size (M_rd v)), .int (M_at (M_rd v)), .int (M_place (M_rd v)), .int (M_sort (M_rd v)), .int (M_value (M_rd v)), .int (M_fault (M_rd v)), .int (M_faultPlace (M_rd v)), .int (M_lastFault (M_lf v)), .int (M_lastPlace (M_lf v)), .ref (q 15), .ref (q 16), .ref (q 17), .ref (q 18), .int (M_hasImage (M_im v)), .int (M_spanNow (M_rn v)), .ref (q 19), .int (M_placeThen (M_rn v)), .int (M_alonePlace (M_al v)), .int (M_aloneSteps (M_al v)), .int (M_aloneOut (M_al v)), .ref (q 20), .ref (q 21), .ref (q 22), .ref (q 23), .int (M_shotAlarm (M_ex v)), .int (M_drawn (M_ex v))]), ((q 1), aI K 700 (M_tape (M_tp v))), ((q 2), aI K 20 (M_number (M_cd v))), ((q 3), aZ K 5 (M_isTold (M_rd v))), ((q 4), aI K 80 (M_codeSort (M_cd v))), ((q 5), aI K 80 (M_codeA (M_cd v))), ((q 6), aI K 80 (M_codeB (M_cd v))), ((q 7), aI K 80 (M_codeC (M_cd v))), ((q 8), aI K 80 (M_codeName (M_cd v))), ((q 9), aI K 80 (M_codePlace (M_cd v))), ((q 10), aI K 80 (M_codeTo (M_cd v))), ((q 11), aI K 280 (M_labelName (M_cd v))), ((q 12), aI K 280 (M_labelAt (M_cd v))), ((q 13), aI K 64 (M_data (M_cd v))), ((q 14), aZ K 32 (M_hasData (M_rd v))), ((q 15), aI K 314 (M_s (M_rn v))), ((q 16), aI K 314 (M_aside (M_ex v))), ((q 17), aI K 314 (M_further (M_ex v))), ((q 18), aI K 314 (M_image (M_im v))), ((q 19), aI K 3 (M_sizeNow (M_rn v))), ((q 20), aI K 8 (M_aloneRegister (M_al v))), ((q 21), aI K 4 (M_aloneReal (M_al v))), ((q 22), aI K 32 (M_aloneMemory (M_al v))), ((q 23), aI K 999 (M_aloneOutput (M_al v)))]) rfl ?_
  refine r_aload_n (pc := 0) cx dX10_turns_0 0 rfl ?_
  obtain ⟨r1, hc2, hf⟩ := bd_of hf
  refine r_Vi (pc := 1) (ws' := [((q 0), ob 9 [.int (M_thrown v), .ref (q 1), .int (M_taped (M_tp v)), .ref (q 2), .ref (q 3), .ref (q 4), .ref (q 5), .ref (q 6), .ref (q 7), .ref (q 8), .ref (q 9), .ref (q 10), .ref (q 11), .ref (q 12), .ref (q 13), .ref (q 14), .int (M_lines (M_rd v)), .int (M_size (M_rd v)), .int (M_at (M_rd v)), .int (M_place (M_rd v)), .int (M_sort (M_rd v)), .int (M_value (M_rd v)), .int (M_fault (M_rd v)), .int (M_faultPlace (M_rd v)), .int (M_lastFault (M_lf v)), .int (M_lastPlace (M_lf v)), .ref (q 15), .ref (q 16), .ref (q 17), .ref (q 18), .int (M_hasImage (M_im v)), .int (M_spanNow (M_rn v)), .ref (q 19), .int (M_placeThen (M_rn v)), .int (M_alonePlace (M_al v)), .int (M_aloneSteps (M_al v)), .int (M_aloneOut (M_al v)), .ref (q 20), .ref (q 21), .ref (q 22), .ref (q 23), .int (M_shotAlarm (M_ex v)), .int (M_drawn (M_ex v))]), ((q 1), aI K 700 (M_tape (M_tp v))), ((q 2), aI K 20 (M_number (M_cd v))), ((q 3), aZ K 5 (M_isTold (M_rd v))), ((q 4), aI K 80 (M_codeSort (M_cd v))), ((q 5), aI K 80 (M_codeA (M_cd v))), ((q 6), aI K 80 (M_codeB (M_cd v))), ((q 7), aI K 80 (M_codeC (M_cd v))), ((q 8), aI K 80 (M_codeName (M_cd v))), ((q 9), aI K 80 (M_codePlace (M_cd v))), ((q 10), aI K 80 (M_codeTo (M_cd v))), ((q 11), aI K 280 (M_labelName (M_cd v))), ((q 12), aI K 280 (M_labelAt (M_cd v))), ((q 13), aI K 64 (M_data (M_cd v))), ((q 14), aZ K 32 (M_hasData (M_rd v))), ((q 15), aI K 314 (M_s (M_rn v))), ((q 16), aI K 314 (M_aside (M_ex v))), ((q 17), aI K 314 (M_further (M_ex v))), ((q 18), aI K 314 (M_image (M_im v))), ((q 19), aI K 3 (M_sizeNow (M_rn v))), ((q 20), aI K 8 (M_aloneRegister (M_al v))), ((q 21), aI K 4 (M_aloneReal (M_al v))), ((q 22), aI K 32 (M_aloneMemory (M_al v))), ((q 23), aI K 999 (M_aloneOutput (M_al v)))]) cx [] [] [0, 1, 2, 3, 4, 5, 6, 7, 8, 9, 10, 11, 12, 13, 14, 15, 16, 17, 18, 19, 20, 21, 22, 23] (m_M_isOver l D K q v hc2) yv_X10_isOver wd_1572 ⟨rfl, rfl⟩ (by decide) rfl rfl rfl (by decide) 0 rfl rfl rfl (Nat.le_of_ble_eq_true rfl) dX10_turns_1 ?_
  refine r_if_eq (pc := 4) (tgt := 9) cx dX10_turns_4 (by decide) (fun h3 => ?_) (fun h3 => ?_)
  · have hf := ifp h3 hf
    refine r_aload_n (pc := 9) cx dX10_turns_9 0 rfl ?_
    refine r_get (pc := 10) cx cf_X10 0 26 rfl (by decide) rfl wd_1342 dX10_turns_10 ?_
    refine r_iconst (pc := 13) cx dX10_turns_13 ic_2 ?_
    refine r_iald (pc := 14) cx 15 rfl (by decide) dX10_turns_14 ?_
    obtain ⟨x4, ex4, hf⟩ := nm_of hf
    refine r_nm ex4 ?_
    refine r_istore_n (pc := 15) (loc' := [(2, .int x4), (0, .ref (q 0)), (1, .int a1)]) cx dX10_turns_15 rfl (by decide) rfl ?_
    refine r_aload_n (pc := 16) cx dX10_turns_16 1 rfl ?_
    refine r_get (pc := 17) cx cf_X10 0 26 rfl (by decide) rfl wd_1342 dX10_turns_17 ?_
    refine r_iconst (pc := 20) cx dX10_turns_20 ic_3 ?_
    refine r_iald (pc := 21) cx 15 rfl (by decide) dX10_turns_21 ?_
    obtain ⟨x5, ex5, hf⟩ := nm_of hf
    refine r_nm ex5 ?_
    refine r_istore_n (pc := 22) (loc' := [(3, .int x5), (2, .int x4), (0, .ref (q 0)), (1, .int a1)]) cx dX10_turns_22 rfl (by decide) rfl ?_
    refine r_iload_n (pc := 23) cx dX10_turns_23 3 rfl ?_
    refine r_istore (pc := 24) (loc' := [(4, .int a1), (3, .int x5), (2, .int x4), (0, .ref (q 0)), (1, .int a1)]) cx dX10_turns_24 (by decide) rfl ?_
    refine r_aload_n (pc := 26) cx dX10_turns_26 3 rfl ?_
    refine r_get (pc := 27) cx cf_X10 0 26 rfl (by decide) rfl wd_1342 dX10_turns_27 ?_
    refine r_sipush (pc := 30) cx dX10_turns_30 sp_219 ?_
    refine r_dup2 (pc := 33) cx dX10_turns_33 rfl rfl ?_
    refine r_iald (pc := 34) cx 15 rfl (by decide) dX10_turns_34 ?_
    refine r_iconst (pc := 35) cx dX10_turns_35 ic_1 ?_
    refine r_iadd (pc := 36) cx dX10_turns_36 ?_
    obtain ⟨x6, ex6, hf⟩ := nm_of hf
    refine r_nm ex6 ?_
    obtain ⟨f7, ef7, hf⟩ := nm_of hf
    refine r_iast (pc := 37) (ws' := [((q 0), ob 9 [.int (M_thrown v), .ref (q 1), .int (M_taped (M_tp v)), .ref (q 2), .ref (q 3), .ref (q 4), .ref (q 5), .ref (q 6), .ref (q 7), .ref (q 8), .ref (q 9), .ref (q 10), .ref (q 11), .ref (q 12), .ref (q 13), .ref (q 14), .int (M_lines (M_rd v)), .int (M_size (M_rd v)), .int (M_at (M_rd v)), .int (M_place (M_rd v)), .int (M_sort (M_rd v)), .int (M_value (M_rd v)), .int (M_fault (M_rd v)), .int (M_faultPlace (M_rd v)), .int (M_lastFault (M_lf v)), .int (M_lastPlace (M_lf v)), .ref (q 15), .ref (q 16), .ref (q 17), .ref (q 18), .int (M_hasImage (M_im v)), .int (M_spanNow (M_rn v)), .ref (q 19), .int (M_placeThen (M_rn v)), .int (M_alonePlace (M_al v)), .int (M_aloneSteps (M_al v)), .int (M_aloneOut (M_al v)), .ref (q 20), .ref (q 21), .ref (q 22), .ref (q 23), .int (M_shotAlarm (M_ex v)), .int (M_drawn (M_ex v))]), ((q 1), aI K 700 (M_tape (M_tp v))), ((q 2), aI K 20 (M_number (M_cd v))), ((q 3), aZ K 5 (M_isTold (M_rd v))), ((q 4), aI K 80 (M_codeSort (M_cd v))), ((q 5), aI K 80 (M_codeA (M_cd v))), ((q 6), aI K 80 (M_codeB (M_cd v))), ((q 7), aI K 80 (M_codeC (M_cd v))), ((q 8), aI K 80 (M_codeName (M_cd v))), ((q 9), aI K 80 (M_codePlace (M_cd v))), ((q 10), aI K 80 (M_codeTo (M_cd v))), ((q 11), aI K 280 (M_labelName (M_cd v))), ((q 12), aI K 280 (M_labelAt (M_cd v))), ((q 13), aI K 64 (M_data (M_cd v))), ((q 14), aZ K 32 (M_hasData (M_rd v))), ((q 15), aI K 314 f7), ((q 16), aI K 314 (M_aside (M_ex v))), ((q 17), aI K 314 (M_further (M_ex v))), ((q 18), aI K 314 (M_image (M_im v))), ((q 19), aI K 3 (M_sizeNow (M_rn v))), ((q 20), aI K 8 (M_aloneRegister (M_al v))), ((q 21), aI K 4 (M_aloneReal (M_al v))), ((q 22), aI K 32 (M_aloneMemory (M_al v))), ((q 23), aI K 999 (M_aloneOutput (M_al v)))]) cx 15 rfl (by decide) dX10_turns_37 ef7 rfl ?_
    refine r_iload_n (pc := 38) cx dX10_turns_38 4 rfl ?_
    obtain ⟨J10, eJ10, hf⟩ := nm_of hf
    have hJ10 : ∀ (x8 : Int32) (v9 : T_M), J10 x8 v9 = some (r_, o_v) → WW p l e rm_M_turns s m args below meth c D A 5 0 0 (MQ below (QI D K A r_ (cl_M K q o_v)) args s 0 0 A) ([((q 0), ob 9 [.int (M_thrown v9), .ref (q 1), .int (M_taped (M_tp v9)), .ref (q 2), .ref (q 3), .ref (q 4), .ref (q 5), .ref (q 6), .ref (q 7), .ref (q 8), .ref (q 9), .ref (q 10), .ref (q 11), .ref (q 12), .ref (q 13), .ref (q 14), .int (M_lines (M_rd v9)), .int (M_size (M_rd v9)), .int (M_at (M_rd v9)), .int (M_place (M_rd v9)), .int (M_sort (M_rd v9)), .int (M_value (M_rd v9)), .int (M_fault (M_rd v9)), .int (M_faultPlace (M_rd v9)), .int (M_lastFault (M_lf v9)), .int (M_lastPlace (M_lf v9)), .ref (q 15), .ref (q 16), .ref (q 17), .ref (q 18), .int (M_hasImage (M_im v9)), .int (M_spanNow (M_rn v9)), .ref (q 19), .int (M_placeThen (M_rn v9)), .int (M_alonePlace (M_al v9)), .int (M_aloneSteps (M_al v9)), .int (M_aloneOut (M_al v9)), .ref (q 20), .ref (q 21), .ref (q 22), .ref (q 23), .int (M_shotAlarm (M_ex v9)), .int (M_drawn (M_ex v9))]), ((q 1), aI K 700 (M_tape (M_tp v9))), ((q 2), aI K 20 (M_number (M_cd v9))), ((q 3), aZ K 5 (M_isTold (M_rd v9))), ((q 4), aI K 80 (M_codeSort (M_cd v9))), ((q 5), aI K 80 (M_codeA (M_cd v9))), ((q 6), aI K 80 (M_codeB (M_cd v9))), ((q 7), aI K 80 (M_codeC (M_cd v9))), ((q 8), aI K 80 (M_codeName (M_cd v9))), ((q 9), aI K 80 (M_codePlace (M_cd v9))), ((q 10), aI K 80 (M_codeTo (M_cd v9))), ((q 11), aI K 280 (M_labelName (M_cd v9))), ((q 12), aI K 280 (M_labelAt (M_cd v9))), ((q 13), aI K 64 (M_data (M_cd v9))), ((q 14), aZ K 32 (M_hasData (M_rd v9))), ((q 15), aI K 314 (M_s (M_rn v9))), ((q 16), aI K 314 (M_aside (M_ex v9))), ((q 17), aI K 314 (M_further (M_ex v9))), ((q 18), aI K 314 (M_image (M_im v9))), ((q 19), aI K 3 (M_sizeNow (M_rn v9))), ((q 20), aI K 8 (M_aloneRegister (M_al v9))), ((q 21), aI K 4 (M_aloneReal (M_al v9))), ((q 22), aI K 32 (M_aloneMemory (M_al v9))), ((q 23), aI K 999 (M_aloneOutput (M_al v9)))]) ([(0, .ref (q 0)), (2, .int x4), (3, .int x5), (4, .int x8)]) ([]) 123 := by
      intro x8 v9 hf
      rw [eJ10] at hf
      refine r_iload (pc := 123) cx dX10_turns_123 3 rfl ?_
      obtain ⟨J12, eJ12, hf⟩ := nm_of hf
      have hJ12 : ∀ (v11 : T_M), J12 v11 = some (r_, o_v) → WW p l e rm_M_turns s m args below meth c D A 5 0 0 (MQ below (QI D K A r_ (cl_M K q o_v)) args s 0 0 A) ([((q 0), ob 9 [.int (M_thrown v11), .ref (q 1), .int (M_taped (M_tp v11)), .ref (q 2), .ref (q 3), .ref (q 4), .ref (q 5), .ref (q 6), .ref (q 7), .ref (q 8), .ref (q 9), .ref (q 10), .ref (q 11), .ref (q 12), .ref (q 13), .ref (q 14), .int (M_lines (M_rd v11)), .int (M_size (M_rd v11)), .int (M_at (M_rd v11)), .int (M_place (M_rd v11)), .int (M_sort (M_rd v11)), .int (M_value (M_rd v11)), .int (M_fault (M_rd v11)), .int (M_faultPlace (M_rd v11)), .int (M_lastFault (M_lf v11)), .int (M_lastPlace (M_lf v11)), .ref (q 15), .ref (q 16), .ref (q 17), .ref (q 18), .int (M_hasImage (M_im v11)), .int (M_spanNow (M_rn v11)), .ref (q 19), .int (M_placeThen (M_rn v11)), .int (M_alonePlace (M_al v11)), .int (M_aloneSteps (M_al v11)), .int (M_aloneOut (M_al v11)), .ref (q 20), .ref (q 21), .ref (q 22), .ref (q 23), .int (M_shotAlarm (M_ex v11)), .int (M_drawn (M_ex v11))]), ((q 1), aI K 700 (M_tape (M_tp v11))), ((q 2), aI K 20 (M_number (M_cd v11))), ((q 3), aZ K 5 (M_isTold (M_rd v11))), ((q 4), aI K 80 (M_codeSort (M_cd v11))), ((q 5), aI K 80 (M_codeA (M_cd v11))), ((q 6), aI K 80 (M_codeB (M_cd v11))), ((q 7), aI K 80 (M_codeC (M_cd v11))), ((q 8), aI K 80 (M_codeName (M_cd v11))), ((q 9), aI K 80 (M_codePlace (M_cd v11))), ((q 10), aI K 80 (M_codeTo (M_cd v11))), ((q 11), aI K 280 (M_labelName (M_cd v11))), ((q 12), aI K 280 (M_labelAt (M_cd v11))), ((q 13), aI K 64 (M_data (M_cd v11))), ((q 14), aZ K 32 (M_hasData (M_rd v11))), ((q 15), aI K 314 (M_s (M_rn v11))), ((q 16), aI K 314 (M_aside (M_ex v11))), ((q 17), aI K 314 (M_further (M_ex v11))), ((q 18), aI K 314 (M_image (M_im v11))), ((q 19), aI K 3 (M_sizeNow (M_rn v11))), ((q 20), aI K 8 (M_aloneRegister (M_al v11))), ((q 21), aI K 4 (M_aloneReal (M_al v11))), ((q 22), aI K 32 (M_aloneMemory (M_al v11))), ((q 23), aI K 999 (M_aloneOutput (M_al v11)))]) ([(0, .ref (q 0))]) ([]) 136 := by
        intro v11 hf
        rw [eJ12] at hf
        refine r_aload_n (pc := 136) cx dX10_turns_136 0 rfl ?_
        refine r_get (pc := 137) cx cf_X10 0 26 rfl (by decide) rfl wd_1342 dX10_turns_137 ?_
        refine r_sipush (pc := 140) cx dX10_turns_140 sp_230 ?_
        refine r_dup2 (pc := 143) cx dX10_turns_143 rfl rfl ?_
        refine r_iald (pc := 144) cx 15 rfl (by decide) dX10_turns_144 ?_
        refine r_aload_n (pc := 145) cx dX10_turns_145 0 rfl ?_
        obtain ⟨r13, hc14, hf⟩ := bd_of hf
        refine r_Vi (pc := 146) (ws' := [((q 0), ob 9 [.int (M_thrown v11), .ref (q 1), .int (M_taped (M_tp v11)), .ref (q 2), .ref (q 3), .ref (q 4), .ref (q 5), .ref (q 6), .ref (q 7), .ref (q 8), .ref (q 9), .ref (q 10), .ref (q 11), .ref (q 12), .ref (q 13), .ref (q 14), .int (M_lines (M_rd v11)), .int (M_size (M_rd v11)), .int (M_at (M_rd v11)), .int (M_place (M_rd v11)), .int (M_sort (M_rd v11)), .int (M_value (M_rd v11)), .int (M_fault (M_rd v11)), .int (M_faultPlace (M_rd v11)), .int (M_lastFault (M_lf v11)), .int (M_lastPlace (M_lf v11)), .ref (q 15), .ref (q 16), .ref (q 17), .ref (q 18), .int (M_hasImage (M_im v11)), .int (M_spanNow (M_rn v11)), .ref (q 19), .int (M_placeThen (M_rn v11)), .int (M_alonePlace (M_al v11)), .int (M_aloneSteps (M_al v11)), .int (M_aloneOut (M_al v11)), .ref (q 20), .ref (q 21), .ref (q 22), .ref (q 23), .int (M_shotAlarm (M_ex v11)), .int (M_drawn (M_ex v11))]), ((q 1), aI K 700 (M_tape (M_tp v11))), ((q 2), aI K 20 (M_number (M_cd v11))), ((q 3), aZ K 5 (M_isTold (M_rd v11))), ((q 4), aI K 80 (M_codeSort (M_cd v11))), ((q 5), aI K 80 (M_codeA (M_cd v11))), ((q 6), aI K 80 (M_codeB (M_cd v11))), ((q 7), aI K 80 (M_codeC (M_cd v11))), ((q 8), aI K 80 (M_codeName (M_cd v11))), ((q 9), aI K 80 (M_codePlace (M_cd v11))), ((q 10), aI K 80 (M_codeTo (M_cd v11))), ((q 11), aI K 280 (M_labelName (M_cd v11))), ((q 12), aI K 280 (M_labelAt (M_cd v11))), ((q 13), aI K 64 (M_data (M_cd v11))), ((q 14), aZ K 32 (M_hasData (M_rd v11))), ((q 15), aI K 314 (M_s (M_rn v11))), ((q 16), aI K 314 (M_aside (M_ex v11))), ((q 17), aI K 314 (M_further (M_ex v11))), ((q 18), aI K 314 (M_image (M_im v11))), ((q 19), aI K 3 (M_sizeNow (M_rn v11))), ((q 20), aI K 8 (M_aloneRegister (M_al v11))), ((q 21), aI K 4 (M_aloneReal (M_al v11))), ((q 22), aI K 32 (M_aloneMemory (M_al v11))), ((q 23), aI K 999 (M_aloneOutput (M_al v11)))]) cx [] [.int ((M_s (M_rn v11)) (230 : Int32).toNatClampNeg), .int (230 : Int32), .ref (q 15)] [0, 1, 2, 3, 4, 5, 6, 7, 8, 9, 10, 11, 12, 13, 14, 15, 16, 17, 18, 19, 20, 21, 22, 23] (m_M_ahead l D K q v11 hc14) yv_X10_ahead wd_1588 ⟨rfl, rfl⟩ (by decide) rfl rfl rfl (by decide) 0 rfl rfl rfl (Nat.le_of_ble_eq_true rfl) dX10_turns_146 ?_
        refine r_iadd (pc := 149) cx dX10_turns_149 ?_
        obtain ⟨x15, ex15, hf⟩ := nm_of hf
        refine r_nm ex15 ?_
        obtain ⟨f16, ef16, hf⟩ := nm_of hf
        refine r_iast (pc := 150) (ws' := [((q 0), ob 9 [.int (M_thrown v11), .ref (q 1), .int (M_taped (M_tp v11)), .ref (q 2), .ref (q 3), .ref (q 4), .ref (q 5), .ref (q 6), .ref (q 7), .ref (q 8), .ref (q 9), .ref (q 10), .ref (q 11), .ref (q 12), .ref (q 13), .ref (q 14), .int (M_lines (M_rd v11)), .int (M_size (M_rd v11)), .int (M_at (M_rd v11)), .int (M_place (M_rd v11)), .int (M_sort (M_rd v11)), .int (M_value (M_rd v11)), .int (M_fault (M_rd v11)), .int (M_faultPlace (M_rd v11)), .int (M_lastFault (M_lf v11)), .int (M_lastPlace (M_lf v11)), .ref (q 15), .ref (q 16), .ref (q 17), .ref (q 18), .int (M_hasImage (M_im v11)), .int (M_spanNow (M_rn v11)), .ref (q 19), .int (M_placeThen (M_rn v11)), .int (M_alonePlace (M_al v11)), .int (M_aloneSteps (M_al v11)), .int (M_aloneOut (M_al v11)), .ref (q 20), .ref (q 21), .ref (q 22), .ref (q 23), .int (M_shotAlarm (M_ex v11)), .int (M_drawn (M_ex v11))]), ((q 1), aI K 700 (M_tape (M_tp v11))), ((q 2), aI K 20 (M_number (M_cd v11))), ((q 3), aZ K 5 (M_isTold (M_rd v11))), ((q 4), aI K 80 (M_codeSort (M_cd v11))), ((q 5), aI K 80 (M_codeA (M_cd v11))), ((q 6), aI K 80 (M_codeB (M_cd v11))), ((q 7), aI K 80 (M_codeC (M_cd v11))), ((q 8), aI K 80 (M_codeName (M_cd v11))), ((q 9), aI K 80 (M_codePlace (M_cd v11))), ((q 10), aI K 80 (M_codeTo (M_cd v11))), ((q 11), aI K 280 (M_labelName (M_cd v11))), ((q 12), aI K 280 (M_labelAt (M_cd v11))), ((q 13), aI K 64 (M_data (M_cd v11))), ((q 14), aZ K 32 (M_hasData (M_rd v11))), ((q 15), aI K 314 f16), ((q 16), aI K 314 (M_aside (M_ex v11))), ((q 17), aI K 314 (M_further (M_ex v11))), ((q 18), aI K 314 (M_image (M_im v11))), ((q 19), aI K 3 (M_sizeNow (M_rn v11))), ((q 20), aI K 8 (M_aloneRegister (M_al v11))), ((q 21), aI K 4 (M_aloneReal (M_al v11))), ((q 22), aI K 32 (M_aloneMemory (M_al v11))), ((q 23), aI K 999 (M_aloneOutput (M_al v11)))]) cx 15 rfl (by decide) dX10_turns_150 ef16 rfl ?_
        refine r_aload_n (pc := 151) cx dX10_turns_151 0 rfl ?_
        refine r_get (pc := 152) cx cf_X10 0 26 rfl (by decide) rfl wd_1342 dX10_turns_152 ?_
        refine r_sipush (pc := 155) cx dX10_turns_155 sp_223 ?_
        refine r_aload_n (pc := 158) cx dX10_turns_158 0 rfl ?_
        obtain ⟨r17, hc18, hf⟩ := bd_of hf
        refine r_Vi (pc := 159) (ws' := [((q 0), ob 9 [.int (M_thrown v11), .ref (q 1), .int (M_taped (M_tp v11)), .ref (q 2), .ref (q 3), .ref (q 4), .ref (q 5), .ref (q 6), .ref (q 7), .ref (q 8), .ref (q 9), .ref (q 10), .ref (q 11), .ref (q 12), .ref (q 13), .ref (q 14), .int (M_lines (M_rd v11)), .int (M_size (M_rd v11)), .int (M_at (M_rd v11)), .int (M_place (M_rd v11)), .int (M_sort (M_rd v11)), .int (M_value (M_rd v11)), .int (M_fault (M_rd v11)), .int (M_faultPlace (M_rd v11)), .int (M_lastFault (M_lf v11)), .int (M_lastPlace (M_lf v11)), .ref (q 15), .ref (q 16), .ref (q 17), .ref (q 18), .int (M_hasImage (M_im v11)), .int (M_spanNow (M_rn v11)), .ref (q 19), .int (M_placeThen (M_rn v11)), .int (M_alonePlace (M_al v11)), .int (M_aloneSteps (M_al v11)), .int (M_aloneOut (M_al v11)), .ref (q 20), .ref (q 21), .ref (q 22), .ref (q 23), .int (M_shotAlarm (M_ex v11)), .int (M_drawn (M_ex v11))]), ((q 1), aI K 700 (M_tape (M_tp v11))), ((q 2), aI K 20 (M_number (M_cd v11))), ((q 3), aZ K 5 (M_isTold (M_rd v11))), ((q 4), aI K 80 (M_codeSort (M_cd v11))), ((q 5), aI K 80 (M_codeA (M_cd v11))), ((q 6), aI K 80 (M_codeB (M_cd v11))), ((q 7), aI K 80 (M_codeC (M_cd v11))), ((q 8), aI K 80 (M_codeName (M_cd v11))), ((q 9), aI K 80 (M_codePlace (M_cd v11))), ((q 10), aI K 80 (M_codeTo (M_cd v11))), ((q 11), aI K 280 (M_labelName (M_cd v11))), ((q 12), aI K 280 (M_labelAt (M_cd v11))), ((q 13), aI K 64 (M_data (M_cd v11))), ((q 14), aZ K 32 (M_hasData (M_rd v11))), ((q 15), aI K 314 f16), ((q 16), aI K 314 (M_aside (M_ex v11))), ((q 17), aI K 314 (M_further (M_ex v11))), ((q 18), aI K 314 (M_image (M_im v11))), ((q 19), aI K 3 (M_sizeNow (M_rn v11))), ((q 20), aI K 8 (M_aloneRegister (M_al v11))), ((q 21), aI K 4 (M_aloneReal (M_al v11))), ((q 22), aI K 32 (M_aloneMemory (M_al v11))), ((q 23), aI K 999 (M_aloneOutput (M_al v11)))]) cx [] [.int (223 : Int32), .ref (q 15)] [0, 1, 2, 3, 4, 5, 6, 7, 8, 9, 10, 11, 12, 13, 14, 15, 16, 17, 18, 19, 20, 21, 22, 23] (m_M_ahead l D K q ((M_tp v11), (M_rd v11), (M_lf v11), (M_cd v11), (f16, (M_spanNow (M_rn v11)), (M_sizeNow (M_rn v11)), (M_placeThen (M_rn v11))), (M_ex v11), (M_im v11), (M_al v11), (M_thrown v11)) hc18) yv_X10_ahead wd_1588 ⟨rfl, rfl⟩ (by decide) rfl rfl rfl (by decide) 0 rfl rfl rfl (Nat.le_of_ble_eq_true rfl) dX10_turns_159 ?_
        refine r_aload_n (pc := 162) cx dX10_turns_162 0 rfl ?_
        refine r_get (pc := 163) cx cf_X10 0 26 rfl (by decide) rfl wd_1342 dX10_turns_163 ?_
        refine r_sipush (pc := 166) cx dX10_turns_166 sp_223 ?_
        refine r_iald (pc := 169) cx 15 rfl (by decide) dX10_turns_169 ?_
        refine r_icmp_le (pc := 170) (tgt := 180) cx dX10_turns_170 (by decide) (fun h19 => ?_) (fun h19 => ?_)
        · have hf := ifp h19 hf
          refine r_aload_n (pc := 180) cx dX10_turns_180 0 rfl ?_
          refine r_get (pc := 181) cx cf_X10 0 26 rfl (by decide) rfl wd_1342 dX10_turns_181 ?_
          refine r_sipush (pc := 184) cx dX10_turns_184 sp_223 ?_
          refine r_iald (pc := 187) cx 15 rfl (by decide) dX10_turns_187 ?_
          obtain ⟨x20, ex20, hf⟩ := nm_of hf
          refine r_nm ex20 ?_
          obtain ⟨f21, ef21, hf⟩ := nm_of hf
          refine r_iast (pc := 188) (ws' := [((q 0), ob 9 [.int (M_thrown v11), .ref (q 1), .int (M_taped (M_tp v11)), .ref (q 2), .ref (q 3), .ref (q 4), .ref (q 5), .ref (q 6), .ref (q 7), .ref (q 8), .ref (q 9), .ref (q 10), .ref (q 11), .ref (q 12), .ref (q 13), .ref (q 14), .int (M_lines (M_rd v11)), .int (M_size (M_rd v11)), .int (M_at (M_rd v11)), .int (M_place (M_rd v11)), .int (M_sort (M_rd v11)), .int (M_value (M_rd v11)), .int (M_fault (M_rd v11)), .int (M_faultPlace (M_rd v11)), .int (M_lastFault (M_lf v11)), .int (M_lastPlace (M_lf v11)), .ref (q 15), .ref (q 16), .ref (q 17), .ref (q 18), .int (M_hasImage (M_im v11)), .int (M_spanNow (M_rn v11)), .ref (q 19), .int (M_placeThen (M_rn v11)), .int (M_alonePlace (M_al v11)), .int (M_aloneSteps (M_al v11)), .int (M_aloneOut (M_al v11)), .ref (q 20), .ref (q 21), .ref (q 22), .ref (q 23), .int (M_shotAlarm (M_ex v11)), .int (M_drawn (M_ex v11))]), ((q 1), aI K 700 (M_tape (M_tp v11))), ((q 2), aI K 20 (M_number (M_cd v11))), ((q 3), aZ K 5 (M_isTold (M_rd v11))), ((q 4), aI K 80 (M_codeSort (M_cd v11))), ((q 5), aI K 80 (M_codeA (M_cd v11))), ((q 6), aI K 80 (M_codeB (M_cd v11))), ((q 7), aI K 80 (M_codeC (M_cd v11))), ((q 8), aI K 80 (M_codeName (M_cd v11))), ((q 9), aI K 80 (M_codePlace (M_cd v11))), ((q 10), aI K 80 (M_codeTo (M_cd v11))), ((q 11), aI K 280 (M_labelName (M_cd v11))), ((q 12), aI K 280 (M_labelAt (M_cd v11))), ((q 13), aI K 64 (M_data (M_cd v11))), ((q 14), aZ K 32 (M_hasData (M_rd v11))), ((q 15), aI K 314 f21), ((q 16), aI K 314 (M_aside (M_ex v11))), ((q 17), aI K 314 (M_further (M_ex v11))), ((q 18), aI K 314 (M_image (M_im v11))), ((q 19), aI K 3 (M_sizeNow (M_rn v11))), ((q 20), aI K 8 (M_aloneRegister (M_al v11))), ((q 21), aI K 4 (M_aloneReal (M_al v11))), ((q 22), aI K 32 (M_aloneMemory (M_al v11))), ((q 23), aI K 999 (M_aloneOutput (M_al v11)))]) cx 15 rfl (by decide) dX10_turns_188 ef21 rfl ?_
          refine r_iconst (pc := 189) cx dX10_turns_189 ic_1 ?_
          cases hf
          exact r_zret (pc := 190) cx (Or.inr rfl) rfl rfl dX10_turns_190
        · have hf := ifn h19 hf
          refine r_aload_n (pc := 173) cx dX10_turns_173 0 rfl ?_
          obtain ⟨r22, hc23, hf⟩ := bd_of hf
          refine r_Vi (pc := 174) (ws' := [((q 0), ob 9 [.int (M_thrown v11), .ref (q 1), .int (M_taped (M_tp v11)), .ref (q 2), .ref (q 3), .ref (q 4), .ref (q 5), .ref (q 6), .ref (q 7), .ref (q 8), .ref (q 9), .ref (q 10), .ref (q 11), .ref (q 12), .ref (q 13), .ref (q 14), .int (M_lines (M_rd v11)), .int (M_size (M_rd v11)), .int (M_at (M_rd v11)), .int (M_place (M_rd v11)), .int (M_sort (M_rd v11)), .int (M_value (M_rd v11)), .int (M_fault (M_rd v11)), .int (M_faultPlace (M_rd v11)), .int (M_lastFault (M_lf v11)), .int (M_lastPlace (M_lf v11)), .ref (q 15), .ref (q 16), .ref (q 17), .ref (q 18), .int (M_hasImage (M_im v11)), .int (M_spanNow (M_rn v11)), .ref (q 19), .int (M_placeThen (M_rn v11)), .int (M_alonePlace (M_al v11)), .int (M_aloneSteps (M_al v11)), .int (M_aloneOut (M_al v11)), .ref (q 20), .ref (q 21), .ref (q 22), .ref (q 23), .int (M_shotAlarm (M_ex v11)), .int (M_drawn (M_ex v11))]), ((q 1), aI K 700 (M_tape (M_tp v11))), ((q 2), aI K 20 (M_number (M_cd v11))), ((q 3), aZ K 5 (M_isTold (M_rd v11))), ((q 4), aI K 80 (M_codeSort (M_cd v11))), ((q 5), aI K 80 (M_codeA (M_cd v11))), ((q 6), aI K 80 (M_codeB (M_cd v11))), ((q 7), aI K 80 (M_codeC (M_cd v11))), ((q 8), aI K 80 (M_codeName (M_cd v11))), ((q 9), aI K 80 (M_codePlace (M_cd v11))), ((q 10), aI K 80 (M_codeTo (M_cd v11))), ((q 11), aI K 280 (M_labelName (M_cd v11))), ((q 12), aI K 280 (M_labelAt (M_cd v11))), ((q 13), aI K 64 (M_data (M_cd v11))), ((q 14), aZ K 32 (M_hasData (M_rd v11))), ((q 15), aI K 314 f16), ((q 16), aI K 314 (M_aside (M_ex v11))), ((q 17), aI K 314 (M_further (M_ex v11))), ((q 18), aI K 314 (M_image (M_im v11))), ((q 19), aI K 3 (M_sizeNow (M_rn v11))), ((q 20), aI K 8 (M_aloneRegister (M_al v11))), ((q 21), aI K 4 (M_aloneReal (M_al v11))), ((q 22), aI K 32 (M_aloneMemory (M_al v11))), ((q 23), aI K 999 (M_aloneOutput (M_al v11)))]) cx [] [.int (223 : Int32), .ref (q 15)] [0, 1, 2, 3, 4, 5, 6, 7, 8, 9, 10, 11, 12, 13, 14, 15, 16, 17, 18, 19, 20, 21, 22, 23] (m_M_ahead l D K q ((M_tp v11), (M_rd v11), (M_lf v11), (M_cd v11), (f16, (M_spanNow (M_rn v11)), (M_sizeNow (M_rn v11)), (M_placeThen (M_rn v11))), (M_ex v11), (M_im v11), (M_al v11), (M_thrown v11)) hc23) yv_X10_ahead wd_1588 ⟨rfl, rfl⟩ (by decide) rfl rfl rfl (by decide) 0 rfl rfl rfl (Nat.le_of_ble_eq_true rfl) dX10_turns_174 ?_
          refine r_goto (pc := 177) (tgt := 188) cx dX10_turns_177 (by decide) ?_
          obtain ⟨f24, ef24, hf⟩ := nm_of hf
          refine r_iast (pc := 188) (ws' := [((q 0), ob 9 [.int (M_thrown v11), .ref (q 1), .int (M_taped (M_tp v11)), .ref (q 2), .ref (q 3), .ref (q 4), .ref (q 5), .ref (q 6), .ref (q 7), .ref (q 8), .ref (q 9), .ref (q 10), .ref (q 11), .ref (q 12), .ref (q 13), .ref (q 14), .int (M_lines (M_rd v11)), .int (M_size (M_rd v11)), .int (M_at (M_rd v11)), .int (M_place (M_rd v11)), .int (M_sort (M_rd v11)), .int (M_value (M_rd v11)), .int (M_fault (M_rd v11)), .int (M_faultPlace (M_rd v11)), .int (M_lastFault (M_lf v11)), .int (M_lastPlace (M_lf v11)), .ref (q 15), .ref (q 16), .ref (q 17), .ref (q 18), .int (M_hasImage (M_im v11)), .int (M_spanNow (M_rn v11)), .ref (q 19), .int (M_placeThen (M_rn v11)), .int (M_alonePlace (M_al v11)), .int (M_aloneSteps (M_al v11)), .int (M_aloneOut (M_al v11)), .ref (q 20), .ref (q 21), .ref (q 22), .ref (q 23), .int (M_shotAlarm (M_ex v11)), .int (M_drawn (M_ex v11))]), ((q 1), aI K 700 (M_tape (M_tp v11))), ((q 2), aI K 20 (M_number (M_cd v11))), ((q 3), aZ K 5 (M_isTold (M_rd v11))), ((q 4), aI K 80 (M_codeSort (M_cd v11))), ((q 5), aI K 80 (M_codeA (M_cd v11))), ((q 6), aI K 80 (M_codeB (M_cd v11))), ((q 7), aI K 80 (M_codeC (M_cd v11))), ((q 8), aI K 80 (M_codeName (M_cd v11))), ((q 9), aI K 80 (M_codePlace (M_cd v11))), ((q 10), aI K 80 (M_codeTo (M_cd v11))), ((q 11), aI K 280 (M_labelName (M_cd v11))), ((q 12), aI K 280 (M_labelAt (M_cd v11))), ((q 13), aI K 64 (M_data (M_cd v11))), ((q 14), aZ K 32 (M_hasData (M_rd v11))), ((q 15), aI K 314 f24), ((q 16), aI K 314 (M_aside (M_ex v11))), ((q 17), aI K 314 (M_further (M_ex v11))), ((q 18), aI K 314 (M_image (M_im v11))), ((q 19), aI K 3 (M_sizeNow (M_rn v11))), ((q 20), aI K 8 (M_aloneRegister (M_al v11))), ((q 21), aI K 4 (M_aloneReal (M_al v11))), ((q 22), aI K 32 (M_aloneMemory (M_al v11))), ((q 23), aI K 999 (M_aloneOutput (M_al v11)))]) cx 15 rfl (by decide) dX10_turns_188 ef24 rfl ?_
          refine r_iconst (pc := 189) cx dX10_turns_189 ic_1 ?_
          cases hf
          exact r_zret (pc := 190) cx (Or.inr rfl) rfl rfl dX10_turns_190
      refine r_if_eq (pc := 125) (tgt := 136) cx dX10_turns_125 (by decide) (fun h25 => ?_) (fun h25 => ?_)
      · have hf := ifp h25 hf
        refine r_loc (loc' := [(0, .ref (q 0))]) [0] rfl ?_
        exact hJ12 _ hf
      · have hf := ifn h25 hf
        refine r_aload_n (pc := 128) cx dX10_turns_128 0 rfl ?_
        refine r_iload (pc := 129) cx dX10_turns_129 3 rfl ?_
        refine r_iload_n (pc := 131) cx dX10_turns_131 1 rfl ?_
        refine r_iload_n (pc := 132) cx dX10_turns_132 2 rfl ?_
        obtain ⟨v26, hc27, hf⟩ := bd_of hf
        refine r_Vv (pc := 133) (ws' := [((q 0), ob 9 [.int (M_thrown v26), .ref (q 1), .int (M_taped (M_tp v26)), .ref (q 2), .ref (q 3), .ref (q 4), .ref (q 5), .ref (q 6), .ref (q 7), .ref (q 8), .ref (q 9), .ref (q 10), .ref (q 11), .ref (q 12), .ref (q 13), .ref (q 14), .int (M_lines (M_rd v26)), .int (M_size (M_rd v26)), .int (M_at (M_rd v26)), .int (M_place (M_rd v26)), .int (M_sort (M_rd v26)), .int (M_value (M_rd v26)), .int (M_fault (M_rd v26)), .int (M_faultPlace (M_rd v26)), .int (M_lastFault (M_lf v26)), .int (M_lastPlace (M_lf v26)), .ref (q 15), .ref (q 16), .ref (q 17), .ref (q 18), .int (M_hasImage (M_im v26)), .int (M_spanNow (M_rn v26)), .ref (q 19), .int (M_placeThen (M_rn v26)), .int (M_alonePlace (M_al v26)), .int (M_aloneSteps (M_al v26)), .int (M_aloneOut (M_al v26)), .ref (q 20), .ref (q 21), .ref (q 22), .ref (q 23), .int (M_shotAlarm (M_ex v26)), .int (M_drawn (M_ex v26))]), ((q 1), aI K 700 (M_tape (M_tp v26))), ((q 2), aI K 20 (M_number (M_cd v26))), ((q 3), aZ K 5 (M_isTold (M_rd v26))), ((q 4), aI K 80 (M_codeSort (M_cd v26))), ((q 5), aI K 80 (M_codeA (M_cd v26))), ((q 6), aI K 80 (M_codeB (M_cd v26))), ((q 7), aI K 80 (M_codeC (M_cd v26))), ((q 8), aI K 80 (M_codeName (M_cd v26))), ((q 9), aI K 80 (M_codePlace (M_cd v26))), ((q 10), aI K 80 (M_codeTo (M_cd v26))), ((q 11), aI K 280 (M_labelName (M_cd v26))), ((q 12), aI K 280 (M_labelAt (M_cd v26))), ((q 13), aI K 64 (M_data (M_cd v26))), ((q 14), aZ K 32 (M_hasData (M_rd v26))), ((q 15), aI K 314 (M_s (M_rn v26))), ((q 16), aI K 314 (M_aside (M_ex v26))), ((q 17), aI K 314 (M_further (M_ex v26))), ((q 18), aI K 314 (M_image (M_im v26))), ((q 19), aI K 3 (M_sizeNow (M_rn v26))), ((q 20), aI K 8 (M_aloneRegister (M_al v26))), ((q 21), aI K 4 (M_aloneReal (M_al v26))), ((q 22), aI K 32 (M_aloneMemory (M_al v26))), ((q 23), aI K 999 (M_aloneOutput (M_al v26)))]) cx [.int x8, .int x4, .int x5] [] [0, 1, 2, 3, 4, 5, 6, 7, 8, 9, 10, 11, 12, 13, 14, 15, 16, 17, 18, 19, 20, 21, 22, 23] (m_M_alarms l D K q v9 x8 x4 x5 hc27) yv_X10_alarms wd_1691 ⟨rfl, rfl⟩ (by decide) rfl rfl rfl (by decide) 0 rfl rfl rfl (Nat.le_of_ble_eq_true rfl) dX10_turns_133 ?_
        refine r_loc (loc' := [(0, .ref (q 0))]) [0] rfl ?_
        exact hJ12 _ hf
    refine r_if_ne (pc := 39) (tgt := 71) cx dX10_turns_39 (by decide) (fun h28 => ?_) (fun h28 => ?_)
    · have hf := ifn h28 hf
      refine r_iload_n (pc := 71) cx dX10_turns_71 4 rfl ?_
      refine r_if_ne (pc := 72) (tgt := 104) cx dX10_turns_72 (by decide) (fun h29 => ?_) (fun h29 => ?_)
      · have hf := ifn h29 hf
        refine r_iload_n (pc := 104) cx dX10_turns_104 4 rfl ?_
        refine r_if_ne (pc := 105) (tgt := 123) cx dX10_turns_105 (by decide) (fun h30 => ?_) (fun h30 => ?_)
        · have hf := ifn h30 hf
          refine r_loc (loc' := [(0, .ref (q 0)), (2, .int x4), (3, .int x5), (4, .int a1)]) [3, 2, 1, 0] rfl ?_
          exact hJ10 _ _ hf
        · have hf := ifp h30 hf
          refine r_aload_n (pc := 108) cx dX10_turns_108 3 rfl ?_
          obtain ⟨r31, hc32, hf⟩ := bd_of hf
          refine r_Vi (pc := 109) (ws' := [((q 0), ob 9 [.int (M_thrown v), .ref (q 1), .int (M_taped (M_tp v)), .ref (q 2), .ref (q 3), .ref (q 4), .ref (q 5), .ref (q 6), .ref (q 7), .ref (q 8), .ref (q 9), .ref (q 10), .ref (q 11), .ref (q 12), .ref (q 13), .ref (q 14), .int (M_lines (M_rd v)), .int (M_size (M_rd v)), .int (M_at (M_rd v)), .int (M_place (M_rd v)), .int (M_sort (M_rd v)), .int (M_value (M_rd v)), .int (M_fault (M_rd v)), .int (M_faultPlace (M_rd v)), .int (M_lastFault (M_lf v)), .int (M_lastPlace (M_lf v)), .ref (q 15), .ref (q 16), .ref (q 17), .ref (q 18), .int (M_hasImage (M_im v)), .int (M_spanNow (M_rn v)), .ref (q 19), .int (M_placeThen (M_rn v)), .int (M_alonePlace (M_al v)), .int (M_aloneSteps (M_al v)), .int (M_aloneOut (M_al v)), .ref (q 20), .ref (q 21), .ref (q 22), .ref (q 23), .int (M_shotAlarm (M_ex v)), .int (M_drawn (M_ex v))]), ((q 1), aI K 700 (M_tape (M_tp v))), ((q 2), aI K 20 (M_number (M_cd v))), ((q 3), aZ K 5 (M_isTold (M_rd v))), ((q 4), aI K 80 (M_codeSort (M_cd v))), ((q 5), aI K 80 (M_codeA (M_cd v))), ((q 6), aI K 80 (M_codeB (M_cd v))), ((q 7), aI K 80 (M_codeC (M_cd v))), ((q 8), aI K 80 (M_codeName (M_cd v))), ((q 9), aI K 80 (M_codePlace (M_cd v))), ((q 10), aI K 80 (M_codeTo (M_cd v))), ((q 11), aI K 280 (M_labelName (M_cd v))), ((q 12), aI K 280 (M_labelAt (M_cd v))), ((q 13), aI K 64 (M_data (M_cd v))), ((q 14), aZ K 32 (M_hasData (M_rd v))), ((q 15), aI K 314 f7), ((q 16), aI K 314 (M_aside (M_ex v))), ((q 17), aI K 314 (M_further (M_ex v))), ((q 18), aI K 314 (M_image (M_im v))), ((q 19), aI K 3 (M_sizeNow (M_rn v))), ((q 20), aI K 8 (M_aloneRegister (M_al v))), ((q 21), aI K 4 (M_aloneReal (M_al v))), ((q 22), aI K 32 (M_aloneMemory (M_al v))), ((q 23), aI K 999 (M_aloneOutput (M_al v)))]) cx [] [] [0, 1, 2, 3, 4, 5, 6, 7, 8, 9, 10, 11, 12, 13, 14, 15, 16, 17, 18, 19, 20, 21, 22, 23] (m_M_wrongHere l D K q ((M_tp v), (M_rd v), (M_lf v), (M_cd v), (f7, (M_spanNow (M_rn v)), (M_sizeNow (M_rn v)), (M_placeThen (M_rn v))), (M_ex v), (M_im v), (M_al v), (M_thrown v)) hc32) yv_X10_wrongHere wd_1671 ⟨rfl, rfl⟩ (by decide) rfl rfl rfl (by decide) 0 rfl rfl rfl (Nat.le_of_ble_eq_true rfl) dX10_turns_109 ?_
          refine r_istore (pc := 112) (loc' := [(4, .int r31), (3, .int x5), (2, .int x4), (0, .ref (q 0)), (1, .int a1)]) cx dX10_turns_112 (by decide) rfl ?_
          refine r_iload (pc := 114) cx dX10_turns_114 0 rfl ?_
          refine r_if_ne (pc := 116) (tgt := 123) cx dX10_turns_116 (by decide) (fun h33 => ?_) (fun h33 => ?_)
          · have hf := ifn h33 hf
            refine r_loc (loc' := [(0, .ref (q 0)), (2, .int x4), (3, .int x5), (4, .int r31)]) [3, 2, 1, 0] rfl ?_
            exact hJ10 _ _ hf
          · have hf := ifp h33 hf
            refine r_aload_n (pc := 119) cx dX10_turns_119 3 rfl ?_
            obtain ⟨v34, hc35, hf⟩ := bd_of hf
            refine r_Vv (pc := 120) (ws' := [((q 0), ob 9 [.int (M_thrown v34), .ref (q 1), .int (M_taped (M_tp v34)), .ref (q 2), .ref (q 3), .ref (q 4), .ref (q 5), .ref (q 6), .ref (q 7), .ref (q 8), .ref (q 9), .ref (q 10), .ref (q 11), .ref (q 12), .ref (q 13), .ref (q 14), .int (M_lines (M_rd v34)), .int (M_size (M_rd v34)), .int (M_at (M_rd v34)), .int (M_place (M_rd v34)), .int (M_sort (M_rd v34)), .int (M_value (M_rd v34)), .int (M_fault (M_rd v34)), .int (M_faultPlace (M_rd v34)), .int (M_lastFault (M_lf v34)), .int (M_lastPlace (M_lf v34)), .ref (q 15), .ref (q 16), .ref (q 17), .ref (q 18), .int (M_hasImage (M_im v34)), .int (M_spanNow (M_rn v34)), .ref (q 19), .int (M_placeThen (M_rn v34)), .int (M_alonePlace (M_al v34)), .int (M_aloneSteps (M_al v34)), .int (M_aloneOut (M_al v34)), .ref (q 20), .ref (q 21), .ref (q 22), .ref (q 23), .int (M_shotAlarm (M_ex v34)), .int (M_drawn (M_ex v34))]), ((q 1), aI K 700 (M_tape (M_tp v34))), ((q 2), aI K 20 (M_number (M_cd v34))), ((q 3), aZ K 5 (M_isTold (M_rd v34))), ((q 4), aI K 80 (M_codeSort (M_cd v34))), ((q 5), aI K 80 (M_codeA (M_cd v34))), ((q 6), aI K 80 (M_codeB (M_cd v34))), ((q 7), aI K 80 (M_codeC (M_cd v34))), ((q 8), aI K 80 (M_codeName (M_cd v34))), ((q 9), aI K 80 (M_codePlace (M_cd v34))), ((q 10), aI K 80 (M_codeTo (M_cd v34))), ((q 11), aI K 280 (M_labelName (M_cd v34))), ((q 12), aI K 280 (M_labelAt (M_cd v34))), ((q 13), aI K 64 (M_data (M_cd v34))), ((q 14), aZ K 32 (M_hasData (M_rd v34))), ((q 15), aI K 314 (M_s (M_rn v34))), ((q 16), aI K 314 (M_aside (M_ex v34))), ((q 17), aI K 314 (M_further (M_ex v34))), ((q 18), aI K 314 (M_image (M_im v34))), ((q 19), aI K 3 (M_sizeNow (M_rn v34))), ((q 20), aI K 8 (M_aloneRegister (M_al v34))), ((q 21), aI K 4 (M_aloneReal (M_al v34))), ((q 22), aI K 32 (M_aloneMemory (M_al v34))), ((q 23), aI K 999 (M_aloneOutput (M_al v34)))]) cx [] [] [0, 1, 2, 3, 4, 5, 6, 7, 8, 9, 10, 11, 12, 13, 14, 15, 16, 17, 18, 19, 20, 21, 22, 23] (m_M_passes l D K q ((M_tp v), (M_rd v), (M_lf v), (M_cd v), (f7, (M_spanNow (M_rn v)), (M_sizeNow (M_rn v)), (M_placeThen (M_rn v))), (M_ex v), (M_im v), (M_al v), (M_thrown v)) hc35) yv_X10_passes wd_1675 ⟨rfl, rfl⟩ (by decide) rfl rfl rfl (by decide) 0 rfl rfl rfl (Nat.le_of_ble_eq_true rfl) dX10_turns_120 ?_
            refine r_loc (loc' := [(0, .ref (q 0)), (2, .int x4), (3, .int x5), (4, .int r31)]) [3, 2, 1, 0] rfl ?_
            exact hJ10 _ _ hf
      · have hf := ifp h29 hf
        refine r_aload_n (pc := 75) cx dX10_turns_75 3 rfl ?_
        obtain ⟨r36, hc37, hf⟩ := bd_of hf
        refine r_Vi (pc := 76) (ws' := [((q 0), ob 9 [.int (M_thrown v), .ref (q 1), .int (M_taped (M_tp v)), .ref (q 2), .ref (q 3), .ref (q 4), .ref (q 5), .ref (q 6), .ref (q 7), .ref (q 8), .ref (q 9), .ref (q 10), .ref (q 11), .ref (q 12), .ref (q 13), .ref (q 14), .int (M_lines (M_rd v)), .int (M_size (M_rd v)), .int (M_at (M_rd v)), .int (M_place (M_rd v)), .int (M_sort (M_rd v)), .int (M_value (M_rd v)), .int (M_fault (M_rd v)), .int (M_faultPlace (M_rd v)), .int (M_lastFault (M_lf v)), .int (M_lastPlace (M_lf v)), .ref (q 15), .ref (q 16), .ref (q 17), .ref (q 18), .int (M_hasImage (M_im v)), .int (M_spanNow (M_rn v)), .ref (q 19), .int (M_placeThen (M_rn v)), .int (M_alonePlace (M_al v)), .int (M_aloneSteps (M_al v)), .int (M_aloneOut (M_al v)), .ref (q 20), .ref (q 21), .ref (q 22), .ref (q 23), .int (M_shotAlarm (M_ex v)), .int (M_drawn (M_ex v))]), ((q 1), aI K 700 (M_tape (M_tp v))), ((q 2), aI K 20 (M_number (M_cd v))), ((q 3), aZ K 5 (M_isTold (M_rd v))), ((q 4), aI K 80 (M_codeSort (M_cd v))), ((q 5), aI K 80 (M_codeA (M_cd v))), ((q 6), aI K 80 (M_codeB (M_cd v))), ((q 7), aI K 80 (M_codeC (M_cd v))), ((q 8), aI K 80 (M_codeName (M_cd v))), ((q 9), aI K 80 (M_codePlace (M_cd v))), ((q 10), aI K 80 (M_codeTo (M_cd v))), ((q 11), aI K 280 (M_labelName (M_cd v))), ((q 12), aI K 280 (M_labelAt (M_cd v))), ((q 13), aI K 64 (M_data (M_cd v))), ((q 14), aZ K 32 (M_hasData (M_rd v))), ((q 15), aI K 314 f7), ((q 16), aI K 314 (M_aside (M_ex v))), ((q 17), aI K 314 (M_further (M_ex v))), ((q 18), aI K 314 (M_image (M_im v))), ((q 19), aI K 3 (M_sizeNow (M_rn v))), ((q 20), aI K 8 (M_aloneRegister (M_al v))), ((q 21), aI K 4 (M_aloneReal (M_al v))), ((q 22), aI K 32 (M_aloneMemory (M_al v))), ((q 23), aI K 999 (M_aloneOutput (M_al v)))]) cx [] [] [0, 1, 2, 3, 4, 5, 6, 7, 8, 9, 10, 11, 12, 13, 14, 15, 16, 17, 18, 19, 20, 21, 22, 23] (m_M_leaderWhy l D K q ((M_tp v), (M_rd v), (M_lf v), (M_cd v), (f7, (M_spanNow (M_rn v)), (M_sizeNow (M_rn v)), (M_placeThen (M_rn v))), (M_ex v), (M_im v), (M_al v), (M_thrown v)) hc37) yv_X10_leaderWhy wd_1592 ⟨rfl, rfl⟩ (by decide) rfl rfl rfl (by decide) 0 rfl rfl rfl (Nat.le_of_ble_eq_true rfl) dX10_turns_76 ?_
        refine r_if_ne (pc := 79) (tgt := 104) cx dX10_turns_79 (by decide) (fun h38 => ?_) (fun h38 => ?_)
        · have hf := ifn h38 hf
          refine r_iload_n (pc := 104) cx dX10_turns_104 4 rfl ?_
          refine r_if_ne (pc := 105) (tgt := 123) cx dX10_turns_105 (by decide) (fun h39 => ?_) (fun h39 => ?_)
          · have hf := ifn h39 hf
            refine r_loc (loc' := [(0, .ref (q 0)), (2, .int x4), (3, .int x5), (4, .int a1)]) [3, 2, 1, 0] rfl ?_
            exact hJ10 _ _ hf
          · have hf := ifp h39 hf
            refine r_aload_n (pc := 108) cx dX10_turns_108 3 rfl ?_
            obtain ⟨r40, hc41, hf⟩ := bd_of hf
            refine r_Vi (pc := 109) (ws' := [((q 0), ob 9 [.int (M_thrown v), .ref (q 1), .int (M_taped (M_tp v)), .ref (q 2), .ref (q 3), .ref (q 4), .ref (q 5), .ref (q 6), .ref (q 7), .ref (q 8), .ref (q 9), .ref (q 10), .ref (q 11), .ref (q 12), .ref (q 13), .ref (q 14), .int (M_lines (M_rd v)), .int (M_size (M_rd v)), .int (M_at (M_rd v)), .int (M_place (M_rd v)), .int (M_sort (M_rd v)), .int (M_value (M_rd v)), .int (M_fault (M_rd v)), .int (M_faultPlace (M_rd v)), .int (M_lastFault (M_lf v)), .int (M_lastPlace (M_lf v)), .ref (q 15), .ref (q 16), .ref (q 17), .ref (q 18), .int (M_hasImage (M_im v)), .int (M_spanNow (M_rn v)), .ref (q 19), .int (M_placeThen (M_rn v)), .int (M_alonePlace (M_al v)), .int (M_aloneSteps (M_al v)), .int (M_aloneOut (M_al v)), .ref (q 20), .ref (q 21), .ref (q 22), .ref (q 23), .int (M_shotAlarm (M_ex v)), .int (M_drawn (M_ex v))]), ((q 1), aI K 700 (M_tape (M_tp v))), ((q 2), aI K 20 (M_number (M_cd v))), ((q 3), aZ K 5 (M_isTold (M_rd v))), ((q 4), aI K 80 (M_codeSort (M_cd v))), ((q 5), aI K 80 (M_codeA (M_cd v))), ((q 6), aI K 80 (M_codeB (M_cd v))), ((q 7), aI K 80 (M_codeC (M_cd v))), ((q 8), aI K 80 (M_codeName (M_cd v))), ((q 9), aI K 80 (M_codePlace (M_cd v))), ((q 10), aI K 80 (M_codeTo (M_cd v))), ((q 11), aI K 280 (M_labelName (M_cd v))), ((q 12), aI K 280 (M_labelAt (M_cd v))), ((q 13), aI K 64 (M_data (M_cd v))), ((q 14), aZ K 32 (M_hasData (M_rd v))), ((q 15), aI K 314 f7), ((q 16), aI K 314 (M_aside (M_ex v))), ((q 17), aI K 314 (M_further (M_ex v))), ((q 18), aI K 314 (M_image (M_im v))), ((q 19), aI K 3 (M_sizeNow (M_rn v))), ((q 20), aI K 8 (M_aloneRegister (M_al v))), ((q 21), aI K 4 (M_aloneReal (M_al v))), ((q 22), aI K 32 (M_aloneMemory (M_al v))), ((q 23), aI K 999 (M_aloneOutput (M_al v)))]) cx [] [] [0, 1, 2, 3, 4, 5, 6, 7, 8, 9, 10, 11, 12, 13, 14, 15, 16, 17, 18, 19, 20, 21, 22, 23] (m_M_wrongHere l D K q ((M_tp v), (M_rd v), (M_lf v), (M_cd v), (f7, (M_spanNow (M_rn v)), (M_sizeNow (M_rn v)), (M_placeThen (M_rn v))), (M_ex v), (M_im v), (M_al v), (M_thrown v)) hc41) yv_X10_wrongHere wd_1671 ⟨rfl, rfl⟩ (by decide) rfl rfl rfl (by decide) 0 rfl rfl rfl (Nat.le_of_ble_eq_true rfl) dX10_turns_109 ?_
            refine r_istore (pc := 112) (loc' := [(4, .int r40), (3, .int x5), (2, .int x4), (0, .ref (q 0)), (1, .int a1)]) cx dX10_turns_112 (by decide) rfl ?_
            refine r_iload (pc := 114) cx dX10_turns_114 0 rfl ?_
            refine r_if_ne (pc := 116) (tgt := 123) cx dX10_turns_116 (by decide) (fun h42 => ?_) (fun h42 => ?_)
            · have hf := ifn h42 hf
              refine r_loc (loc' := [(0, .ref (q 0)), (2, .int x4), (3, .int x5), (4, .int r40)]) [3, 2, 1, 0] rfl ?_
              exact hJ10 _ _ hf
            · have hf := ifp h42 hf
              refine r_aload_n (pc := 119) cx dX10_turns_119 3 rfl ?_
              obtain ⟨v43, hc44, hf⟩ := bd_of hf
              refine r_Vv (pc := 120) (ws' := [((q 0), ob 9 [.int (M_thrown v43), .ref (q 1), .int (M_taped (M_tp v43)), .ref (q 2), .ref (q 3), .ref (q 4), .ref (q 5), .ref (q 6), .ref (q 7), .ref (q 8), .ref (q 9), .ref (q 10), .ref (q 11), .ref (q 12), .ref (q 13), .ref (q 14), .int (M_lines (M_rd v43)), .int (M_size (M_rd v43)), .int (M_at (M_rd v43)), .int (M_place (M_rd v43)), .int (M_sort (M_rd v43)), .int (M_value (M_rd v43)), .int (M_fault (M_rd v43)), .int (M_faultPlace (M_rd v43)), .int (M_lastFault (M_lf v43)), .int (M_lastPlace (M_lf v43)), .ref (q 15), .ref (q 16), .ref (q 17), .ref (q 18), .int (M_hasImage (M_im v43)), .int (M_spanNow (M_rn v43)), .ref (q 19), .int (M_placeThen (M_rn v43)), .int (M_alonePlace (M_al v43)), .int (M_aloneSteps (M_al v43)), .int (M_aloneOut (M_al v43)), .ref (q 20), .ref (q 21), .ref (q 22), .ref (q 23), .int (M_shotAlarm (M_ex v43)), .int (M_drawn (M_ex v43))]), ((q 1), aI K 700 (M_tape (M_tp v43))), ((q 2), aI K 20 (M_number (M_cd v43))), ((q 3), aZ K 5 (M_isTold (M_rd v43))), ((q 4), aI K 80 (M_codeSort (M_cd v43))), ((q 5), aI K 80 (M_codeA (M_cd v43))), ((q 6), aI K 80 (M_codeB (M_cd v43))), ((q 7), aI K 80 (M_codeC (M_cd v43))), ((q 8), aI K 80 (M_codeName (M_cd v43))), ((q 9), aI K 80 (M_codePlace (M_cd v43))), ((q 10), aI K 80 (M_codeTo (M_cd v43))), ((q 11), aI K 280 (M_labelName (M_cd v43))), ((q 12), aI K 280 (M_labelAt (M_cd v43))), ((q 13), aI K 64 (M_data (M_cd v43))), ((q 14), aZ K 32 (M_hasData (M_rd v43))), ((q 15), aI K 314 (M_s (M_rn v43))), ((q 16), aI K 314 (M_aside (M_ex v43))), ((q 17), aI K 314 (M_further (M_ex v43))), ((q 18), aI K 314 (M_image (M_im v43))), ((q 19), aI K 3 (M_sizeNow (M_rn v43))), ((q 20), aI K 8 (M_aloneRegister (M_al v43))), ((q 21), aI K 4 (M_aloneReal (M_al v43))), ((q 22), aI K 32 (M_aloneMemory (M_al v43))), ((q 23), aI K 999 (M_aloneOutput (M_al v43)))]) cx [] [] [0, 1, 2, 3, 4, 5, 6, 7, 8, 9, 10, 11, 12, 13, 14, 15, 16, 17, 18, 19, 20, 21, 22, 23] (m_M_passes l D K q ((M_tp v), (M_rd v), (M_lf v), (M_cd v), (f7, (M_spanNow (M_rn v)), (M_sizeNow (M_rn v)), (M_placeThen (M_rn v))), (M_ex v), (M_im v), (M_al v), (M_thrown v)) hc44) yv_X10_passes wd_1675 ⟨rfl, rfl⟩ (by decide) rfl rfl rfl (by decide) 0 rfl rfl rfl (Nat.le_of_ble_eq_true rfl) dX10_turns_120 ?_
              refine r_loc (loc' := [(0, .ref (q 0)), (2, .int x4), (3, .int x5), (4, .int r40)]) [3, 2, 1, 0] rfl ?_
              exact hJ10 _ _ hf
        · have hf := ifp h38 hf
          refine r_aload_n (pc := 82) cx dX10_turns_82 3 rfl ?_
          refine r_get (pc := 83) cx cf_X10 0 26 rfl (by decide) rfl wd_1342 dX10_turns_83 ?_
          refine r_sipush (pc := 86) cx dX10_turns_86 sp_228 ?_
          refine r_dup2 (pc := 89) cx dX10_turns_89 rfl rfl ?_
          refine r_iald (pc := 90) cx 15 rfl (by decide) dX10_turns_90 ?_
          refine r_iconst (pc := 91) cx dX10_turns_91 ic_1 ?_
          refine r_iadd (pc := 92) cx dX10_turns_92 ?_
          obtain ⟨x45, ex45, hf⟩ := nm_of hf
          refine r_nm ex45 ?_
          obtain ⟨f46, ef46, hf⟩ := nm_of hf
          refine r_iast (pc := 93) (ws' := [((q 0), ob 9 [.int (M_thrown v), .ref (q 1), .int (M_taped (M_tp v)), .ref (q 2), .ref (q 3), .ref (q 4), .ref (q 5), .ref (q 6), .ref (q 7), .ref (q 8), .ref (q 9), .ref (q 10), .ref (q 11), .ref (q 12), .ref (q 13), .ref (q 14), .int (M_lines (M_rd v)), .int (M_size (M_rd v)), .int (M_at (M_rd v)), .int (M_place (M_rd v)), .int (M_sort (M_rd v)), .int (M_value (M_rd v)), .int (M_fault (M_rd v)), .int (M_faultPlace (M_rd v)), .int (M_lastFault (M_lf v)), .int (M_lastPlace (M_lf v)), .ref (q 15), .ref (q 16), .ref (q 17), .ref (q 18), .int (M_hasImage (M_im v)), .int (M_spanNow (M_rn v)), .ref (q 19), .int (M_placeThen (M_rn v)), .int (M_alonePlace (M_al v)), .int (M_aloneSteps (M_al v)), .int (M_aloneOut (M_al v)), .ref (q 20), .ref (q 21), .ref (q 22), .ref (q 23), .int (M_shotAlarm (M_ex v)), .int (M_drawn (M_ex v))]), ((q 1), aI K 700 (M_tape (M_tp v))), ((q 2), aI K 20 (M_number (M_cd v))), ((q 3), aZ K 5 (M_isTold (M_rd v))), ((q 4), aI K 80 (M_codeSort (M_cd v))), ((q 5), aI K 80 (M_codeA (M_cd v))), ((q 6), aI K 80 (M_codeB (M_cd v))), ((q 7), aI K 80 (M_codeC (M_cd v))), ((q 8), aI K 80 (M_codeName (M_cd v))), ((q 9), aI K 80 (M_codePlace (M_cd v))), ((q 10), aI K 80 (M_codeTo (M_cd v))), ((q 11), aI K 280 (M_labelName (M_cd v))), ((q 12), aI K 280 (M_labelAt (M_cd v))), ((q 13), aI K 64 (M_data (M_cd v))), ((q 14), aZ K 32 (M_hasData (M_rd v))), ((q 15), aI K 314 f46), ((q 16), aI K 314 (M_aside (M_ex v))), ((q 17), aI K 314 (M_further (M_ex v))), ((q 18), aI K 314 (M_image (M_im v))), ((q 19), aI K 3 (M_sizeNow (M_rn v))), ((q 20), aI K 8 (M_aloneRegister (M_al v))), ((q 21), aI K 4 (M_aloneReal (M_al v))), ((q 22), aI K 32 (M_aloneMemory (M_al v))), ((q 23), aI K 999 (M_aloneOutput (M_al v)))]) cx 15 rfl (by decide) dX10_turns_93 ef46 rfl ?_
          refine r_aload_n (pc := 94) cx dX10_turns_94 3 rfl ?_
          refine r_iconst (pc := 95) cx dX10_turns_95 ic_0 ?_
          obtain ⟨r47, v48, hc49, hf⟩ := bd2_of hf
          refine r_Vi (pc := 96) (ws' := [((q 0), ob 9 [.int (M_thrown v48), .ref (q 1), .int (M_taped (M_tp v48)), .ref (q 2), .ref (q 3), .ref (q 4), .ref (q 5), .ref (q 6), .ref (q 7), .ref (q 8), .ref (q 9), .ref (q 10), .ref (q 11), .ref (q 12), .ref (q 13), .ref (q 14), .int (M_lines (M_rd v48)), .int (M_size (M_rd v48)), .int (M_at (M_rd v48)), .int (M_place (M_rd v48)), .int (M_sort (M_rd v48)), .int (M_value (M_rd v48)), .int (M_fault (M_rd v48)), .int (M_faultPlace (M_rd v48)), .int (M_lastFault (M_lf v48)), .int (M_lastPlace (M_lf v48)), .ref (q 15), .ref (q 16), .ref (q 17), .ref (q 18), .int (M_hasImage (M_im v48)), .int (M_spanNow (M_rn v48)), .ref (q 19), .int (M_placeThen (M_rn v48)), .int (M_alonePlace (M_al v48)), .int (M_aloneSteps (M_al v48)), .int (M_aloneOut (M_al v48)), .ref (q 20), .ref (q 21), .ref (q 22), .ref (q 23), .int (M_shotAlarm (M_ex v48)), .int (M_drawn (M_ex v48))]), ((q 1), aI K 700 (M_tape (M_tp v48))), ((q 2), aI K 20 (M_number (M_cd v48))), ((q 3), aZ K 5 (M_isTold (M_rd v48))), ((q 4), aI K 80 (M_codeSort (M_cd v48))), ((q 5), aI K 80 (M_codeA (M_cd v48))), ((q 6), aI K 80 (M_codeB (M_cd v48))), ((q 7), aI K 80 (M_codeC (M_cd v48))), ((q 8), aI K 80 (M_codeName (M_cd v48))), ((q 9), aI K 80 (M_codePlace (M_cd v48))), ((q 10), aI K 80 (M_codeTo (M_cd v48))), ((q 11), aI K 280 (M_labelName (M_cd v48))), ((q 12), aI K 280 (M_labelAt (M_cd v48))), ((q 13), aI K 64 (M_data (M_cd v48))), ((q 14), aZ K 32 (M_hasData (M_rd v48))), ((q 15), aI K 314 (M_s (M_rn v48))), ((q 16), aI K 314 (M_aside (M_ex v48))), ((q 17), aI K 314 (M_further (M_ex v48))), ((q 18), aI K 314 (M_image (M_im v48))), ((q 19), aI K 3 (M_sizeNow (M_rn v48))), ((q 20), aI K 8 (M_aloneRegister (M_al v48))), ((q 21), aI K 4 (M_aloneReal (M_al v48))), ((q 22), aI K 32 (M_aloneMemory (M_al v48))), ((q 23), aI K 999 (M_aloneOutput (M_al v48)))]) cx [.int (0 : Int32)] [] [0, 1, 2, 3, 4, 5, 6, 7, 8, 9, 10, 11, 12, 13, 14, 15, 16, 17, 18, 19, 20, 21, 22, 23] (m_M_stepped l D K q ((M_tp v), (M_rd v), (M_lf v), (M_cd v), (f46, (M_spanNow (M_rn v)), (M_sizeNow (M_rn v)), (M_placeThen (M_rn v))), (M_ex v), (M_im v), (M_al v), (M_thrown v)) (0 : Int32) hc49) yv_X10_stepped wd_1603 ⟨rfl, rfl⟩ (by decide) rfl rfl rfl (by decide) 0 rfl rfl rfl (Nat.le_of_ble_eq_true rfl) dX10_turns_96 ?_
          refine r_istore (pc := 99) (loc' := [(4, .int r47), (3, .int x5), (2, .int x4), (0, .ref (q 0)), (1, .int a1)]) cx dX10_turns_99 (by decide) rfl ?_
          refine r_goto (pc := 101) (tgt := 123) cx dX10_turns_101 (by decide) ?_
          refine r_loc (loc' := [(0, .ref (q 0)), (2, .int x4), (3, .int x5), (4, .int r47)]) [3, 2, 1, 0] rfl ?_
          exact hJ10 _ _ hf
    · have hf := ifp h28 hf
      refine r_aload_n (pc := 42) cx dX10_turns_42 3 rfl ?_
      obtain ⟨r50, hc51, hf⟩ := bd_of hf
      refine r_Vi (pc := 43) (ws' := [((q 0), ob 9 [.int (M_thrown v), .ref (q 1), .int (M_taped (M_tp v)), .ref (q 2), .ref (q 3), .ref (q 4), .ref (q 5), .ref (q 6), .ref (q 7), .ref (q 8), .ref (q 9), .ref (q 10), .ref (q 11), .ref (q 12), .ref (q 13), .ref (q 14), .int (M_lines (M_rd v)), .int (M_size (M_rd v)), .int (M_at (M_rd v)), .int (M_place (M_rd v)), .int (M_sort (M_rd v)), .int (M_value (M_rd v)), .int (M_fault (M_rd v)), .int (M_faultPlace (M_rd v)), .int (M_lastFault (M_lf v)), .int (M_lastPlace (M_lf v)), .ref (q 15), .ref (q 16), .ref (q 17), .ref (q 18), .int (M_hasImage (M_im v)), .int (M_spanNow (M_rn v)), .ref (q 19), .int (M_placeThen (M_rn v)), .int (M_alonePlace (M_al v)), .int (M_aloneSteps (M_al v)), .int (M_aloneOut (M_al v)), .ref (q 20), .ref (q 21), .ref (q 22), .ref (q 23), .int (M_shotAlarm (M_ex v)), .int (M_drawn (M_ex v))]), ((q 1), aI K 700 (M_tape (M_tp v))), ((q 2), aI K 20 (M_number (M_cd v))), ((q 3), aZ K 5 (M_isTold (M_rd v))), ((q 4), aI K 80 (M_codeSort (M_cd v))), ((q 5), aI K 80 (M_codeA (M_cd v))), ((q 6), aI K 80 (M_codeB (M_cd v))), ((q 7), aI K 80 (M_codeC (M_cd v))), ((q 8), aI K 80 (M_codeName (M_cd v))), ((q 9), aI K 80 (M_codePlace (M_cd v))), ((q 10), aI K 80 (M_codeTo (M_cd v))), ((q 11), aI K 280 (M_labelName (M_cd v))), ((q 12), aI K 280 (M_labelAt (M_cd v))), ((q 13), aI K 64 (M_data (M_cd v))), ((q 14), aZ K 32 (M_hasData (M_rd v))), ((q 15), aI K 314 f7), ((q 16), aI K 314 (M_aside (M_ex v))), ((q 17), aI K 314 (M_further (M_ex v))), ((q 18), aI K 314 (M_image (M_im v))), ((q 19), aI K 3 (M_sizeNow (M_rn v))), ((q 20), aI K 8 (M_aloneRegister (M_al v))), ((q 21), aI K 4 (M_aloneReal (M_al v))), ((q 22), aI K 32 (M_aloneMemory (M_al v))), ((q 23), aI K 999 (M_aloneOutput (M_al v)))]) cx [] [] [0, 1, 2, 3, 4, 5, 6, 7, 8, 9, 10, 11, 12, 13, 14, 15, 16, 17, 18, 19, 20, 21, 22, 23] (m_M_trailerWhy l D K q ((M_tp v), (M_rd v), (M_lf v), (M_cd v), (f7, (M_spanNow (M_rn v)), (M_sizeNow (M_rn v)), (M_placeThen (M_rn v))), (M_ex v), (M_im v), (M_al v), (M_thrown v)) hc51) yv_X10_trailerWhy wd_1576 ⟨rfl, rfl⟩ (by decide) rfl rfl rfl (by decide) 0 rfl rfl rfl (Nat.le_of_ble_eq_true rfl) dX10_turns_43 ?_
      refine r_if_ne (pc := 46) (tgt := 71) cx dX10_turns_46 (by decide) (fun h52 => ?_) (fun h52 => ?_)
      · have hf := ifn h52 hf
        refine r_iload_n (pc := 71) cx dX10_turns_71 4 rfl ?_
        refine r_if_ne (pc := 72) (tgt := 104) cx dX10_turns_72 (by decide) (fun h53 => ?_) (fun h53 => ?_)
        · have hf := ifn h53 hf
          refine r_iload_n (pc := 104) cx dX10_turns_104 4 rfl ?_
          refine r_if_ne (pc := 105) (tgt := 123) cx dX10_turns_105 (by decide) (fun h54 => ?_) (fun h54 => ?_)
          · have hf := ifn h54 hf
            refine r_loc (loc' := [(0, .ref (q 0)), (2, .int x4), (3, .int x5), (4, .int a1)]) [3, 2, 1, 0] rfl ?_
            exact hJ10 _ _ hf
          · have hf := ifp h54 hf
            refine r_aload_n (pc := 108) cx dX10_turns_108 3 rfl ?_
            obtain ⟨r55, hc56, hf⟩ := bd_of hf
            refine r_Vi (pc := 109) (ws' := [((q 0), ob 9 [.int (M_thrown v), .ref (q 1), .int (M_taped (M_tp v)), .ref (q 2), .ref (q 3), .ref (q 4), .ref (q 5), .ref (q 6), .ref (q 7), .ref (q 8), .ref (q 9), .ref (q 10), .ref (q 11), .ref (q 12), .ref (q 13), .ref (q 14), .int (M_lines (M_rd v)), .int (M_size (M_rd v)), .int (M_at (M_rd v)), .int (M_place (M_rd v)), .int (M_sort (M_rd v)), .int (M_value (M_rd v)), .int (M_fault (M_rd v)), .int (M_faultPlace (M_rd v)), .int (M_lastFault (M_lf v)), .int (M_lastPlace (M_lf v)), .ref (q 15), .ref (q 16), .ref (q 17), .ref (q 18), .int (M_hasImage (M_im v)), .int (M_spanNow (M_rn v)), .ref (q 19), .int (M_placeThen (M_rn v)), .int (M_alonePlace (M_al v)), .int (M_aloneSteps (M_al v)), .int (M_aloneOut (M_al v)), .ref (q 20), .ref (q 21), .ref (q 22), .ref (q 23), .int (M_shotAlarm (M_ex v)), .int (M_drawn (M_ex v))]), ((q 1), aI K 700 (M_tape (M_tp v))), ((q 2), aI K 20 (M_number (M_cd v))), ((q 3), aZ K 5 (M_isTold (M_rd v))), ((q 4), aI K 80 (M_codeSort (M_cd v))), ((q 5), aI K 80 (M_codeA (M_cd v))), ((q 6), aI K 80 (M_codeB (M_cd v))), ((q 7), aI K 80 (M_codeC (M_cd v))), ((q 8), aI K 80 (M_codeName (M_cd v))), ((q 9), aI K 80 (M_codePlace (M_cd v))), ((q 10), aI K 80 (M_codeTo (M_cd v))), ((q 11), aI K 280 (M_labelName (M_cd v))), ((q 12), aI K 280 (M_labelAt (M_cd v))), ((q 13), aI K 64 (M_data (M_cd v))), ((q 14), aZ K 32 (M_hasData (M_rd v))), ((q 15), aI K 314 f7), ((q 16), aI K 314 (M_aside (M_ex v))), ((q 17), aI K 314 (M_further (M_ex v))), ((q 18), aI K 314 (M_image (M_im v))), ((q 19), aI K 3 (M_sizeNow (M_rn v))), ((q 20), aI K 8 (M_aloneRegister (M_al v))), ((q 21), aI K 4 (M_aloneReal (M_al v))), ((q 22), aI K 32 (M_aloneMemory (M_al v))), ((q 23), aI K 999 (M_aloneOutput (M_al v)))]) cx [] [] [0, 1, 2, 3, 4, 5, 6, 7, 8, 9, 10, 11, 12, 13, 14, 15, 16, 17, 18, 19, 20, 21, 22, 23] (m_M_wrongHere l D K q ((M_tp v), (M_rd v), (M_lf v), (M_cd v), (f7, (M_spanNow (M_rn v)), (M_sizeNow (M_rn v)), (M_placeThen (M_rn v))), (M_ex v), (M_im v), (M_al v), (M_thrown v)) hc56) yv_X10_wrongHere wd_1671 ⟨rfl, rfl⟩ (by decide) rfl rfl rfl (by decide) 0 rfl rfl rfl (Nat.le_of_ble_eq_true rfl) dX10_turns_109 ?_
            refine r_istore (pc := 112) (loc' := [(4, .int r55), (3, .int x5), (2, .int x4), (0, .ref (q 0)), (1, .int a1)]) cx dX10_turns_112 (by decide) rfl ?_
            refine r_iload (pc := 114) cx dX10_turns_114 0 rfl ?_
            refine r_if_ne (pc := 116) (tgt := 123) cx dX10_turns_116 (by decide) (fun h57 => ?_) (fun h57 => ?_)
            · have hf := ifn h57 hf
              refine r_loc (loc' := [(0, .ref (q 0)), (2, .int x4), (3, .int x5), (4, .int r55)]) [3, 2, 1, 0] rfl ?_
              exact hJ10 _ _ hf
            · have hf := ifp h57 hf
              refine r_aload_n (pc := 119) cx dX10_turns_119 3 rfl ?_
              obtain ⟨v58, hc59, hf⟩ := bd_of hf
              refine r_Vv (pc := 120) (ws' := [((q 0), ob 9 [.int (M_thrown v58), .ref (q 1), .int (M_taped (M_tp v58)), .ref (q 2), .ref (q 3), .ref (q 4), .ref (q 5), .ref (q 6), .ref (q 7), .ref (q 8), .ref (q 9), .ref (q 10), .ref (q 11), .ref (q 12), .ref (q 13), .ref (q 14), .int (M_lines (M_rd v58)), .int (M_size (M_rd v58)), .int (M_at (M_rd v58)), .int (M_place (M_rd v58)), .int (M_sort (M_rd v58)), .int (M_value (M_rd v58)), .int (M_fault (M_rd v58)), .int (M_faultPlace (M_rd v58)), .int (M_lastFault (M_lf v58)), .int (M_lastPlace (M_lf v58)), .ref (q 15), .ref (q 16), .ref (q 17), .ref (q 18), .int (M_hasImage (M_im v58)), .int (M_spanNow (M_rn v58)), .ref (q 19), .int (M_placeThen (M_rn v58)), .int (M_alonePlace (M_al v58)), .int (M_aloneSteps (M_al v58)), .int (M_aloneOut (M_al v58)), .ref (q 20), .ref (q 21), .ref (q 22), .ref (q 23), .int (M_shotAlarm (M_ex v58)), .int (M_drawn (M_ex v58))]), ((q 1), aI K 700 (M_tape (M_tp v58))), ((q 2), aI K 20 (M_number (M_cd v58))), ((q 3), aZ K 5 (M_isTold (M_rd v58))), ((q 4), aI K 80 (M_codeSort (M_cd v58))), ((q 5), aI K 80 (M_codeA (M_cd v58))), ((q 6), aI K 80 (M_codeB (M_cd v58))), ((q 7), aI K 80 (M_codeC (M_cd v58))), ((q 8), aI K 80 (M_codeName (M_cd v58))), ((q 9), aI K 80 (M_codePlace (M_cd v58))), ((q 10), aI K 80 (M_codeTo (M_cd v58))), ((q 11), aI K 280 (M_labelName (M_cd v58))), ((q 12), aI K 280 (M_labelAt (M_cd v58))), ((q 13), aI K 64 (M_data (M_cd v58))), ((q 14), aZ K 32 (M_hasData (M_rd v58))), ((q 15), aI K 314 (M_s (M_rn v58))), ((q 16), aI K 314 (M_aside (M_ex v58))), ((q 17), aI K 314 (M_further (M_ex v58))), ((q 18), aI K 314 (M_image (M_im v58))), ((q 19), aI K 3 (M_sizeNow (M_rn v58))), ((q 20), aI K 8 (M_aloneRegister (M_al v58))), ((q 21), aI K 4 (M_aloneReal (M_al v58))), ((q 22), aI K 32 (M_aloneMemory (M_al v58))), ((q 23), aI K 999 (M_aloneOutput (M_al v58)))]) cx [] [] [0, 1, 2, 3, 4, 5, 6, 7, 8, 9, 10, 11, 12, 13, 14, 15, 16, 17, 18, 19, 20, 21, 22, 23] (m_M_passes l D K q ((M_tp v), (M_rd v), (M_lf v), (M_cd v), (f7, (M_spanNow (M_rn v)), (M_sizeNow (M_rn v)), (M_placeThen (M_rn v))), (M_ex v), (M_im v), (M_al v), (M_thrown v)) hc59) yv_X10_passes wd_1675 ⟨rfl, rfl⟩ (by decide) rfl rfl rfl (by decide) 0 rfl rfl rfl (Nat.le_of_ble_eq_true rfl) dX10_turns_120 ?_
              refine r_loc (loc' := [(0, .ref (q 0)), (2, .int x4), (3, .int x5), (4, .int r55)]) [3, 2, 1, 0] rfl ?_
              exact hJ10 _ _ hf
        · have hf := ifp h53 hf
          refine r_aload_n (pc := 75) cx dX10_turns_75 3 rfl ?_
          obtain ⟨r60, hc61, hf⟩ := bd_of hf
          refine r_Vi (pc := 76) (ws' := [((q 0), ob 9 [.int (M_thrown v), .ref (q 1), .int (M_taped (M_tp v)), .ref (q 2), .ref (q 3), .ref (q 4), .ref (q 5), .ref (q 6), .ref (q 7), .ref (q 8), .ref (q 9), .ref (q 10), .ref (q 11), .ref (q 12), .ref (q 13), .ref (q 14), .int (M_lines (M_rd v)), .int (M_size (M_rd v)), .int (M_at (M_rd v)), .int (M_place (M_rd v)), .int (M_sort (M_rd v)), .int (M_value (M_rd v)), .int (M_fault (M_rd v)), .int (M_faultPlace (M_rd v)), .int (M_lastFault (M_lf v)), .int (M_lastPlace (M_lf v)), .ref (q 15), .ref (q 16), .ref (q 17), .ref (q 18), .int (M_hasImage (M_im v)), .int (M_spanNow (M_rn v)), .ref (q 19), .int (M_placeThen (M_rn v)), .int (M_alonePlace (M_al v)), .int (M_aloneSteps (M_al v)), .int (M_aloneOut (M_al v)), .ref (q 20), .ref (q 21), .ref (q 22), .ref (q 23), .int (M_shotAlarm (M_ex v)), .int (M_drawn (M_ex v))]), ((q 1), aI K 700 (M_tape (M_tp v))), ((q 2), aI K 20 (M_number (M_cd v))), ((q 3), aZ K 5 (M_isTold (M_rd v))), ((q 4), aI K 80 (M_codeSort (M_cd v))), ((q 5), aI K 80 (M_codeA (M_cd v))), ((q 6), aI K 80 (M_codeB (M_cd v))), ((q 7), aI K 80 (M_codeC (M_cd v))), ((q 8), aI K 80 (M_codeName (M_cd v))), ((q 9), aI K 80 (M_codePlace (M_cd v))), ((q 10), aI K 80 (M_codeTo (M_cd v))), ((q 11), aI K 280 (M_labelName (M_cd v))), ((q 12), aI K 280 (M_labelAt (M_cd v))), ((q 13), aI K 64 (M_data (M_cd v))), ((q 14), aZ K 32 (M_hasData (M_rd v))), ((q 15), aI K 314 f7), ((q 16), aI K 314 (M_aside (M_ex v))), ((q 17), aI K 314 (M_further (M_ex v))), ((q 18), aI K 314 (M_image (M_im v))), ((q 19), aI K 3 (M_sizeNow (M_rn v))), ((q 20), aI K 8 (M_aloneRegister (M_al v))), ((q 21), aI K 4 (M_aloneReal (M_al v))), ((q 22), aI K 32 (M_aloneMemory (M_al v))), ((q 23), aI K 999 (M_aloneOutput (M_al v)))]) cx [] [] [0, 1, 2, 3, 4, 5, 6, 7, 8, 9, 10, 11, 12, 13, 14, 15, 16, 17, 18, 19, 20, 21, 22, 23] (m_M_leaderWhy l D K q ((M_tp v), (M_rd v), (M_lf v), (M_cd v), (f7, (M_spanNow (M_rn v)), (M_sizeNow (M_rn v)), (M_placeThen (M_rn v))), (M_ex v), (M_im v), (M_al v), (M_thrown v)) hc61) yv_X10_leaderWhy wd_1592 ⟨rfl, rfl⟩ (by decide) rfl rfl rfl (by decide) 0 rfl rfl rfl (Nat.le_of_ble_eq_true rfl) dX10_turns_76 ?_
          refine r_if_ne (pc := 79) (tgt := 104) cx dX10_turns_79 (by decide) (fun h62 => ?_) (fun h62 => ?_)
          · have hf := ifn h62 hf
            refine r_iload_n (pc := 104) cx dX10_turns_104 4 rfl ?_
            refine r_if_ne (pc := 105) (tgt := 123) cx dX10_turns_105 (by decide) (fun h63 => ?_) (fun h63 => ?_)
            · have hf := ifn h63 hf
              refine r_loc (loc' := [(0, .ref (q 0)), (2, .int x4), (3, .int x5), (4, .int a1)]) [3, 2, 1, 0] rfl ?_
              exact hJ10 _ _ hf
            · have hf := ifp h63 hf
              refine r_aload_n (pc := 108) cx dX10_turns_108 3 rfl ?_
              obtain ⟨r64, hc65, hf⟩ := bd_of hf
              refine r_Vi (pc := 109) (ws' := [((q 0), ob 9 [.int (M_thrown v), .ref (q 1), .int (M_taped (M_tp v)), .ref (q 2), .ref (q 3), .ref (q 4), .ref (q 5), .ref (q 6), .ref (q 7), .ref (q 8), .ref (q 9), .ref (q 10), .ref (q 11), .ref (q 12), .ref (q 13), .ref (q 14), .int (M_lines (M_rd v)), .int (M_size (M_rd v)), .int (M_at (M_rd v)), .int (M_place (M_rd v)), .int (M_sort (M_rd v)), .int (M_value (M_rd v)), .int (M_fault (M_rd v)), .int (M_faultPlace (M_rd v)), .int (M_lastFault (M_lf v)), .int (M_lastPlace (M_lf v)), .ref (q 15), .ref (q 16), .ref (q 17), .ref (q 18), .int (M_hasImage (M_im v)), .int (M_spanNow (M_rn v)), .ref (q 19), .int (M_placeThen (M_rn v)), .int (M_alonePlace (M_al v)), .int (M_aloneSteps (M_al v)), .int (M_aloneOut (M_al v)), .ref (q 20), .ref (q 21), .ref (q 22), .ref (q 23), .int (M_shotAlarm (M_ex v)), .int (M_drawn (M_ex v))]), ((q 1), aI K 700 (M_tape (M_tp v))), ((q 2), aI K 20 (M_number (M_cd v))), ((q 3), aZ K 5 (M_isTold (M_rd v))), ((q 4), aI K 80 (M_codeSort (M_cd v))), ((q 5), aI K 80 (M_codeA (M_cd v))), ((q 6), aI K 80 (M_codeB (M_cd v))), ((q 7), aI K 80 (M_codeC (M_cd v))), ((q 8), aI K 80 (M_codeName (M_cd v))), ((q 9), aI K 80 (M_codePlace (M_cd v))), ((q 10), aI K 80 (M_codeTo (M_cd v))), ((q 11), aI K 280 (M_labelName (M_cd v))), ((q 12), aI K 280 (M_labelAt (M_cd v))), ((q 13), aI K 64 (M_data (M_cd v))), ((q 14), aZ K 32 (M_hasData (M_rd v))), ((q 15), aI K 314 f7), ((q 16), aI K 314 (M_aside (M_ex v))), ((q 17), aI K 314 (M_further (M_ex v))), ((q 18), aI K 314 (M_image (M_im v))), ((q 19), aI K 3 (M_sizeNow (M_rn v))), ((q 20), aI K 8 (M_aloneRegister (M_al v))), ((q 21), aI K 4 (M_aloneReal (M_al v))), ((q 22), aI K 32 (M_aloneMemory (M_al v))), ((q 23), aI K 999 (M_aloneOutput (M_al v)))]) cx [] [] [0, 1, 2, 3, 4, 5, 6, 7, 8, 9, 10, 11, 12, 13, 14, 15, 16, 17, 18, 19, 20, 21, 22, 23] (m_M_wrongHere l D K q ((M_tp v), (M_rd v), (M_lf v), (M_cd v), (f7, (M_spanNow (M_rn v)), (M_sizeNow (M_rn v)), (M_placeThen (M_rn v))), (M_ex v), (M_im v), (M_al v), (M_thrown v)) hc65) yv_X10_wrongHere wd_1671 ⟨rfl, rfl⟩ (by decide) rfl rfl rfl (by decide) 0 rfl rfl rfl (Nat.le_of_ble_eq_true rfl) dX10_turns_109 ?_
              refine r_istore (pc := 112) (loc' := [(4, .int r64), (3, .int x5), (2, .int x4), (0, .ref (q 0)), (1, .int a1)]) cx dX10_turns_112 (by decide) rfl ?_
              refine r_iload (pc := 114) cx dX10_turns_114 0 rfl ?_
              refine r_if_ne (pc := 116) (tgt := 123) cx dX10_turns_116 (by decide) (fun h66 => ?_) (fun h66 => ?_)
              · have hf := ifn h66 hf
                refine r_loc (loc' := [(0, .ref (q 0)), (2, .int x4), (3, .int x5), (4, .int r64)]) [3, 2, 1, 0] rfl ?_
                exact hJ10 _ _ hf
              · have hf := ifp h66 hf
                refine r_aload_n (pc := 119) cx dX10_turns_119 3 rfl ?_
                obtain ⟨v67, hc68, hf⟩ := bd_of hf
                refine r_Vv (pc := 120) (ws' := [((q 0), ob 9 [.int (M_thrown v67), .ref (q 1), .int (M_taped (M_tp v67)), .ref (q 2), .ref (q 3), .ref (q 4), .ref (q 5), .ref (q 6), .ref (q 7), .ref (q 8), .ref (q 9), .ref (q 10), .ref (q 11), .ref (q 12), .ref (q 13), .ref (q 14), .int (M_lines (M_rd v67)), .int (M_size (M_rd v67)), .int (M_at (M_rd v67)), .int (M_place (M_rd v67)), .int (M_sort (M_rd v67)), .int (M_value (M_rd v67)), .int (M_fault (M_rd v67)), .int (M_faultPlace (M_rd v67)), .int (M_lastFault (M_lf v67)), .int (M_lastPlace (M_lf v67)), .ref (q 15), .ref (q 16), .ref (q 17), .ref (q 18), .int (M_hasImage (M_im v67)), .int (M_spanNow (M_rn v67)), .ref (q 19), .int (M_placeThen (M_rn v67)), .int (M_alonePlace (M_al v67)), .int (M_aloneSteps (M_al v67)), .int (M_aloneOut (M_al v67)), .ref (q 20), .ref (q 21), .ref (q 22), .ref (q 23), .int (M_shotAlarm (M_ex v67)), .int (M_drawn (M_ex v67))]), ((q 1), aI K 700 (M_tape (M_tp v67))), ((q 2), aI K 20 (M_number (M_cd v67))), ((q 3), aZ K 5 (M_isTold (M_rd v67))), ((q 4), aI K 80 (M_codeSort (M_cd v67))), ((q 5), aI K 80 (M_codeA (M_cd v67))), ((q 6), aI K 80 (M_codeB (M_cd v67))), ((q 7), aI K 80 (M_codeC (M_cd v67))), ((q 8), aI K 80 (M_codeName (M_cd v67))), ((q 9), aI K 80 (M_codePlace (M_cd v67))), ((q 10), aI K 80 (M_codeTo (M_cd v67))), ((q 11), aI K 280 (M_labelName (M_cd v67))), ((q 12), aI K 280 (M_labelAt (M_cd v67))), ((q 13), aI K 64 (M_data (M_cd v67))), ((q 14), aZ K 32 (M_hasData (M_rd v67))), ((q 15), aI K 314 (M_s (M_rn v67))), ((q 16), aI K 314 (M_aside (M_ex v67))), ((q 17), aI K 314 (M_further (M_ex v67))), ((q 18), aI K 314 (M_image (M_im v67))), ((q 19), aI K 3 (M_sizeNow (M_rn v67))), ((q 20), aI K 8 (M_aloneRegister (M_al v67))), ((q 21), aI K 4 (M_aloneReal (M_al v67))), ((q 22), aI K 32 (M_aloneMemory (M_al v67))), ((q 23), aI K 999 (M_aloneOutput (M_al v67)))]) cx [] [] [0, 1, 2, 3, 4, 5, 6, 7, 8, 9, 10, 11, 12, 13, 14, 15, 16, 17, 18, 19, 20, 21, 22, 23] (m_M_passes l D K q ((M_tp v), (M_rd v), (M_lf v), (M_cd v), (f7, (M_spanNow (M_rn v)), (M_sizeNow (M_rn v)), (M_placeThen (M_rn v))), (M_ex v), (M_im v), (M_al v), (M_thrown v)) hc68) yv_X10_passes wd_1675 ⟨rfl, rfl⟩ (by decide) rfl rfl rfl (by decide) 0 rfl rfl rfl (Nat.le_of_ble_eq_true rfl) dX10_turns_120 ?_
                refine r_loc (loc' := [(0, .ref (q 0)), (2, .int x4), (3, .int x5), (4, .int r64)]) [3, 2, 1, 0] rfl ?_
                exact hJ10 _ _ hf
          · have hf := ifp h62 hf
            refine r_aload_n (pc := 82) cx dX10_turns_82 3 rfl ?_
            refine r_get (pc := 83) cx cf_X10 0 26 rfl (by decide) rfl wd_1342 dX10_turns_83 ?_
            refine r_sipush (pc := 86) cx dX10_turns_86 sp_228 ?_
            refine r_dup2 (pc := 89) cx dX10_turns_89 rfl rfl ?_
            refine r_iald (pc := 90) cx 15 rfl (by decide) dX10_turns_90 ?_
            refine r_iconst (pc := 91) cx dX10_turns_91 ic_1 ?_
            refine r_iadd (pc := 92) cx dX10_turns_92 ?_
            obtain ⟨x69, ex69, hf⟩ := nm_of hf
            refine r_nm ex69 ?_
            obtain ⟨f70, ef70, hf⟩ := nm_of hf
            refine r_iast (pc := 93) (ws' := [((q 0), ob 9 [.int (M_thrown v), .ref (q 1), .int (M_taped (M_tp v)), .ref (q 2), .ref (q 3), .ref (q 4), .ref (q 5), .ref (q 6), .ref (q 7), .ref (q 8), .ref (q 9), .ref (q 10), .ref (q 11), .ref (q 12), .ref (q 13), .ref (q 14), .int (M_lines (M_rd v)), .int (M_size (M_rd v)), .int (M_at (M_rd v)), .int (M_place (M_rd v)), .int (M_sort (M_rd v)), .int (M_value (M_rd v)), .int (M_fault (M_rd v)), .int (M_faultPlace (M_rd v)), .int (M_lastFault (M_lf v)), .int (M_lastPlace (M_lf v)), .ref (q 15), .ref (q 16), .ref (q 17), .ref (q 18), .int (M_hasImage (M_im v)), .int (M_spanNow (M_rn v)), .ref (q 19), .int (M_placeThen (M_rn v)), .int (M_alonePlace (M_al v)), .int (M_aloneSteps (M_al v)), .int (M_aloneOut (M_al v)), .ref (q 20), .ref (q 21), .ref (q 22), .ref (q 23), .int (M_shotAlarm (M_ex v)), .int (M_drawn (M_ex v))]), ((q 1), aI K 700 (M_tape (M_tp v))), ((q 2), aI K 20 (M_number (M_cd v))), ((q 3), aZ K 5 (M_isTold (M_rd v))), ((q 4), aI K 80 (M_codeSort (M_cd v))), ((q 5), aI K 80 (M_codeA (M_cd v))), ((q 6), aI K 80 (M_codeB (M_cd v))), ((q 7), aI K 80 (M_codeC (M_cd v))), ((q 8), aI K 80 (M_codeName (M_cd v))), ((q 9), aI K 80 (M_codePlace (M_cd v))), ((q 10), aI K 80 (M_codeTo (M_cd v))), ((q 11), aI K 280 (M_labelName (M_cd v))), ((q 12), aI K 280 (M_labelAt (M_cd v))), ((q 13), aI K 64 (M_data (M_cd v))), ((q 14), aZ K 32 (M_hasData (M_rd v))), ((q 15), aI K 314 f70), ((q 16), aI K 314 (M_aside (M_ex v))), ((q 17), aI K 314 (M_further (M_ex v))), ((q 18), aI K 314 (M_image (M_im v))), ((q 19), aI K 3 (M_sizeNow (M_rn v))), ((q 20), aI K 8 (M_aloneRegister (M_al v))), ((q 21), aI K 4 (M_aloneReal (M_al v))), ((q 22), aI K 32 (M_aloneMemory (M_al v))), ((q 23), aI K 999 (M_aloneOutput (M_al v)))]) cx 15 rfl (by decide) dX10_turns_93 ef70 rfl ?_
            refine r_aload_n (pc := 94) cx dX10_turns_94 3 rfl ?_
            refine r_iconst (pc := 95) cx dX10_turns_95 ic_0 ?_
            obtain ⟨r71, v72, hc73, hf⟩ := bd2_of hf
            refine r_Vi (pc := 96) (ws' := [((q 0), ob 9 [.int (M_thrown v72), .ref (q 1), .int (M_taped (M_tp v72)), .ref (q 2), .ref (q 3), .ref (q 4), .ref (q 5), .ref (q 6), .ref (q 7), .ref (q 8), .ref (q 9), .ref (q 10), .ref (q 11), .ref (q 12), .ref (q 13), .ref (q 14), .int (M_lines (M_rd v72)), .int (M_size (M_rd v72)), .int (M_at (M_rd v72)), .int (M_place (M_rd v72)), .int (M_sort (M_rd v72)), .int (M_value (M_rd v72)), .int (M_fault (M_rd v72)), .int (M_faultPlace (M_rd v72)), .int (M_lastFault (M_lf v72)), .int (M_lastPlace (M_lf v72)), .ref (q 15), .ref (q 16), .ref (q 17), .ref (q 18), .int (M_hasImage (M_im v72)), .int (M_spanNow (M_rn v72)), .ref (q 19), .int (M_placeThen (M_rn v72)), .int (M_alonePlace (M_al v72)), .int (M_aloneSteps (M_al v72)), .int (M_aloneOut (M_al v72)), .ref (q 20), .ref (q 21), .ref (q 22), .ref (q 23), .int (M_shotAlarm (M_ex v72)), .int (M_drawn (M_ex v72))]), ((q 1), aI K 700 (M_tape (M_tp v72))), ((q 2), aI K 20 (M_number (M_cd v72))), ((q 3), aZ K 5 (M_isTold (M_rd v72))), ((q 4), aI K 80 (M_codeSort (M_cd v72))), ((q 5), aI K 80 (M_codeA (M_cd v72))), ((q 6), aI K 80 (M_codeB (M_cd v72))), ((q 7), aI K 80 (M_codeC (M_cd v72))), ((q 8), aI K 80 (M_codeName (M_cd v72))), ((q 9), aI K 80 (M_codePlace (M_cd v72))), ((q 10), aI K 80 (M_codeTo (M_cd v72))), ((q 11), aI K 280 (M_labelName (M_cd v72))), ((q 12), aI K 280 (M_labelAt (M_cd v72))), ((q 13), aI K 64 (M_data (M_cd v72))), ((q 14), aZ K 32 (M_hasData (M_rd v72))), ((q 15), aI K 314 (M_s (M_rn v72))), ((q 16), aI K 314 (M_aside (M_ex v72))), ((q 17), aI K 314 (M_further (M_ex v72))), ((q 18), aI K 314 (M_image (M_im v72))), ((q 19), aI K 3 (M_sizeNow (M_rn v72))), ((q 20), aI K 8 (M_aloneRegister (M_al v72))), ((q 21), aI K 4 (M_aloneReal (M_al v72))), ((q 22), aI K 32 (M_aloneMemory (M_al v72))), ((q 23), aI K 999 (M_aloneOutput (M_al v72)))]) cx [.int (0 : Int32)] [] [0, 1, 2, 3, 4, 5, 6, 7, 8, 9, 10, 11, 12, 13, 14, 15, 16, 17, 18, 19, 20, 21, 22, 23] (m_M_stepped l D K q ((M_tp v), (M_rd v), (M_lf v), (M_cd v), (f70, (M_spanNow (M_rn v)), (M_sizeNow (M_rn v)), (M_placeThen (M_rn v))), (M_ex v), (M_im v), (M_al v), (M_thrown v)) (0 : Int32) hc73) yv_X10_stepped wd_1603 ⟨rfl, rfl⟩ (by decide) rfl rfl rfl (by decide) 0 rfl rfl rfl (Nat.le_of_ble_eq_true rfl) dX10_turns_96 ?_
            refine r_istore (pc := 99) (loc' := [(4, .int r71), (3, .int x5), (2, .int x4), (0, .ref (q 0)), (1, .int a1)]) cx dX10_turns_99 (by decide) rfl ?_
            refine r_goto (pc := 101) (tgt := 123) cx dX10_turns_101 (by decide) ?_
            refine r_loc (loc' := [(0, .ref (q 0)), (2, .int x4), (3, .int x5), (4, .int r71)]) [3, 2, 1, 0] rfl ?_
            exact hJ10 _ _ hf
      · have hf := ifp h52 hf
        refine r_aload_n (pc := 49) cx dX10_turns_49 3 rfl ?_
        refine r_get (pc := 50) cx cf_X10 0 26 rfl (by decide) rfl wd_1342 dX10_turns_50 ?_
        refine r_sipush (pc := 53) cx dX10_turns_53 sp_229 ?_
        refine r_dup2 (pc := 56) cx dX10_turns_56 rfl rfl ?_
        refine r_iald (pc := 57) cx 15 rfl (by decide) dX10_turns_57 ?_
        refine r_iconst (pc := 58) cx dX10_turns_58 ic_1 ?_
        refine r_iadd (pc := 59) cx dX10_turns_59 ?_
        obtain ⟨x74, ex74, hf⟩ := nm_of hf
        refine r_nm ex74 ?_
        obtain ⟨f75, ef75, hf⟩ := nm_of hf
        refine r_iast (pc := 60) (ws' := [((q 0), ob 9 [.int (M_thrown v), .ref (q 1), .int (M_taped (M_tp v)), .ref (q 2), .ref (q 3), .ref (q 4), .ref (q 5), .ref (q 6), .ref (q 7), .ref (q 8), .ref (q 9), .ref (q 10), .ref (q 11), .ref (q 12), .ref (q 13), .ref (q 14), .int (M_lines (M_rd v)), .int (M_size (M_rd v)), .int (M_at (M_rd v)), .int (M_place (M_rd v)), .int (M_sort (M_rd v)), .int (M_value (M_rd v)), .int (M_fault (M_rd v)), .int (M_faultPlace (M_rd v)), .int (M_lastFault (M_lf v)), .int (M_lastPlace (M_lf v)), .ref (q 15), .ref (q 16), .ref (q 17), .ref (q 18), .int (M_hasImage (M_im v)), .int (M_spanNow (M_rn v)), .ref (q 19), .int (M_placeThen (M_rn v)), .int (M_alonePlace (M_al v)), .int (M_aloneSteps (M_al v)), .int (M_aloneOut (M_al v)), .ref (q 20), .ref (q 21), .ref (q 22), .ref (q 23), .int (M_shotAlarm (M_ex v)), .int (M_drawn (M_ex v))]), ((q 1), aI K 700 (M_tape (M_tp v))), ((q 2), aI K 20 (M_number (M_cd v))), ((q 3), aZ K 5 (M_isTold (M_rd v))), ((q 4), aI K 80 (M_codeSort (M_cd v))), ((q 5), aI K 80 (M_codeA (M_cd v))), ((q 6), aI K 80 (M_codeB (M_cd v))), ((q 7), aI K 80 (M_codeC (M_cd v))), ((q 8), aI K 80 (M_codeName (M_cd v))), ((q 9), aI K 80 (M_codePlace (M_cd v))), ((q 10), aI K 80 (M_codeTo (M_cd v))), ((q 11), aI K 280 (M_labelName (M_cd v))), ((q 12), aI K 280 (M_labelAt (M_cd v))), ((q 13), aI K 64 (M_data (M_cd v))), ((q 14), aZ K 32 (M_hasData (M_rd v))), ((q 15), aI K 314 f75), ((q 16), aI K 314 (M_aside (M_ex v))), ((q 17), aI K 314 (M_further (M_ex v))), ((q 18), aI K 314 (M_image (M_im v))), ((q 19), aI K 3 (M_sizeNow (M_rn v))), ((q 20), aI K 8 (M_aloneRegister (M_al v))), ((q 21), aI K 4 (M_aloneReal (M_al v))), ((q 22), aI K 32 (M_aloneMemory (M_al v))), ((q 23), aI K 999 (M_aloneOutput (M_al v)))]) cx 15 rfl (by decide) dX10_turns_60 ef75 rfl ?_
        refine r_aload_n (pc := 61) cx dX10_turns_61 3 rfl ?_
        refine r_iconst (pc := 62) cx dX10_turns_62 ic_1 ?_
        obtain ⟨r76, v77, hc78, hf⟩ := bd2_of hf
        refine r_Vi (pc := 63) (ws' := [((q 0), ob 9 [.int (M_thrown v77), .ref (q 1), .int (M_taped (M_tp v77)), .ref (q 2), .ref (q 3), .ref (q 4), .ref (q 5), .ref (q 6), .ref (q 7), .ref (q 8), .ref (q 9), .ref (q 10), .ref (q 11), .ref (q 12), .ref (q 13), .ref (q 14), .int (M_lines (M_rd v77)), .int (M_size (M_rd v77)), .int (M_at (M_rd v77)), .int (M_place (M_rd v77)), .int (M_sort (M_rd v77)), .int (M_value (M_rd v77)), .int (M_fault (M_rd v77)), .int (M_faultPlace (M_rd v77)), .int (M_lastFault (M_lf v77)), .int (M_lastPlace (M_lf v77)), .ref (q 15), .ref (q 16), .ref (q 17), .ref (q 18), .int (M_hasImage (M_im v77)), .int (M_spanNow (M_rn v77)), .ref (q 19), .int (M_placeThen (M_rn v77)), .int (M_alonePlace (M_al v77)), .int (M_aloneSteps (M_al v77)), .int (M_aloneOut (M_al v77)), .ref (q 20), .ref (q 21), .ref (q 22), .ref (q 23), .int (M_shotAlarm (M_ex v77)), .int (M_drawn (M_ex v77))]), ((q 1), aI K 700 (M_tape (M_tp v77))), ((q 2), aI K 20 (M_number (M_cd v77))), ((q 3), aZ K 5 (M_isTold (M_rd v77))), ((q 4), aI K 80 (M_codeSort (M_cd v77))), ((q 5), aI K 80 (M_codeA (M_cd v77))), ((q 6), aI K 80 (M_codeB (M_cd v77))), ((q 7), aI K 80 (M_codeC (M_cd v77))), ((q 8), aI K 80 (M_codeName (M_cd v77))), ((q 9), aI K 80 (M_codePlace (M_cd v77))), ((q 10), aI K 80 (M_codeTo (M_cd v77))), ((q 11), aI K 280 (M_labelName (M_cd v77))), ((q 12), aI K 280 (M_labelAt (M_cd v77))), ((q 13), aI K 64 (M_data (M_cd v77))), ((q 14), aZ K 32 (M_hasData (M_rd v77))), ((q 15), aI K 314 (M_s (M_rn v77))), ((q 16), aI K 314 (M_aside (M_ex v77))), ((q 17), aI K 314 (M_further (M_ex v77))), ((q 18), aI K 314 (M_image (M_im v77))), ((q 19), aI K 3 (M_sizeNow (M_rn v77))), ((q 20), aI K 8 (M_aloneRegister (M_al v77))), ((q 21), aI K 4 (M_aloneReal (M_al v77))), ((q 22), aI K 32 (M_aloneMemory (M_al v77))), ((q 23), aI K 999 (M_aloneOutput (M_al v77)))]) cx [.int (1 : Int32)] [] [0, 1, 2, 3, 4, 5, 6, 7, 8, 9, 10, 11, 12, 13, 14, 15, 16, 17, 18, 19, 20, 21, 22, 23] (m_M_stepped l D K q ((M_tp v), (M_rd v), (M_lf v), (M_cd v), (f75, (M_spanNow (M_rn v)), (M_sizeNow (M_rn v)), (M_placeThen (M_rn v))), (M_ex v), (M_im v), (M_al v), (M_thrown v)) (1 : Int32) hc78) yv_X10_stepped wd_1603 ⟨rfl, rfl⟩ (by decide) rfl rfl rfl (by decide) 0 rfl rfl rfl (Nat.le_of_ble_eq_true rfl) dX10_turns_63 ?_
        refine r_istore (pc := 66) (loc' := [(4, .int r76), (3, .int x5), (2, .int x4), (0, .ref (q 0)), (1, .int a1)]) cx dX10_turns_66 (by decide) rfl ?_
        refine r_goto (pc := 68) (tgt := 123) cx dX10_turns_68 (by decide) ?_
        refine r_loc (loc' := [(0, .ref (q 0)), (2, .int x4), (3, .int x5), (4, .int r76)]) [3, 2, 1, 0] rfl ?_
        exact hJ10 _ _ hf
  · have hf := ifn h3 hf
    refine r_iconst (pc := 7) cx dX10_turns_7 ic_0 ?_
    cases hf
    exact r_zret (pc := 8) cx (Or.inl rfl) rfl rfl dX10_turns_8
theorem yv_X10_turns : YV yX10_turns cX10_turns 5 (some .boolean) 1 := ⟨⟨by decide +kernel, by decide +kernel, by decide +kernel⟩, wd_1571, wd_102, wd_1570, wd_52⟩
def f_M_go_L20 (a1 : Int32) (k20_39 : Int32 → T_M → Option (Int32 × T_M)) : Nat → Int32 → T_M → Option (Int32 × T_M)
  | 0, _, _ => none
  | n20 + 1, x3, v4 =>
    (if a1 ≤ x3 then (k20_39 x3 v4) else (bd2 (f_M_turns v4 (0 : Int32)) fun (r8 : Int32) (v9 : T_M) => (if r8 = (0 : Int32) then (k20_39 x3 v9) else (nm (x3 + (1 : Int32)) fun (x12 : Int32) => (f_M_go_L20 a1 k20_39 n20 x12 v9)))))
def f_M_go (v : T_M) (a1 : Int32) : Option (Int32 × T_M) :=
  (if a1 < (0 : Int32) then (some ((-1 : Int32), ((M_tp v), (M_rd v), (M_lf v), (M_cd v), (M_rn v), (M_ex v), (M_im v), (M_al v), (0 : Int32)))) else (if a1 ≤ (300 : Int32) then (f_M_go_L20 a1 (fun (x5 : Int32) (v6 : T_M) => (some (x5, v6))) LF (0 : Int32) ((M_tp v), (M_rd v), (M_lf v), (M_cd v), (M_rn v), (M_ex v), (M_im v), (M_al v), (0 : Int32))) else (some ((-1 : Int32), ((M_tp v), (M_rd v), (M_lf v), (M_cd v), (M_rn v), (M_ex v), (M_im v), (M_al v), (0 : Int32))))))
abbrev rm_M_go : Room := { frames := 6, cells := 0, slots := 0, locals := 147 }
set_option maxRecDepth 100000 in
set_option maxHeartbeats 4000000 in
theorem m_M_go (l : Launch) (D : va_G) (K : Nat → ClassId) (q : Nat → Nat) (v : T_M) (a1 : Int32) {r_ : Int32} {o_v : T_M} (hf : f_M_go v a1 = some (r_, o_v)) : MI l yX10_go cX10_go 3 (some .int) rm_M_go D K [.ref (q 0), .int a1] (cl_M K q v) r_ (cl_M K q o_v) := by
  refine MI_of (loc0 := [(0, .ref (q 0)), (1, .int a1)]) (by decide +kernel) rfl (Nat.le_of_ble_eq_true rfl) ?_
  intro p e s m args below meth c A cx
  unfold f_M_go at hf
  refine r_ws (ws' := [((q 0), ob 9 [.int (M_thrown v), .ref (q 1), .int (M_taped (M_tp v)), .ref (q 2), .ref (q 3), .ref (q 4), .ref (q 5), .ref (q 6), .ref (q 7), .ref (q 8), .ref (q 9), .ref (q 10), .ref (q 11), .ref (q 12), .ref (q 13), .ref (q 14), .int (M_lines (M_rd v)), .int (M_size (M_rd v)), .int (M_at (M_rd v)), .int (M_place (M_rd v)), .int (M_sort (M_rd v)), .int (M_value (M_rd v)), .int (M_fault (M_rd v)), .int (M_faultPlace (M_rd v)), .int (M_lastFault (M_lf v)), .int (M_lastPlace (M_lf v)), .ref (q 15), .ref (q 16), .ref (q 17), .ref (q 18), .int (M_hasImage (M_im v)), .int (M_spanNow (M_rn v)), .ref (q 19), .int (M_placeThen (M_rn v)), .int (M_alonePlace (M_al v)), .int (M_aloneSteps (M_al v)), .int (M_aloneOut (M_al v)), .ref (q 20), .ref (q 21), .ref (q 22), .ref (q 23), .int (M_shotAlarm (M_ex v)), .int (M_drawn (M_ex v))]), ((q 1), aI K 700 (M_tape (M_tp v))), ((q 2), aI K 20 (M_number (M_cd v))), ((q 3), aZ K 5 (M_isTold (M_rd v))), ((q 4), aI K 80 (M_codeSort (M_cd v))), ((q 5), aI K 80 (M_codeA (M_cd v))), ((q 6), aI K 80 (M_codeB (M_cd v))), ((q 7), aI K 80 (M_codeC (M_cd v))), ((q 8), aI K 80 (M_codeName (M_cd v))), ((q 9), aI K 80 (M_codePlace (M_cd v))), ((q 10), aI K 80 (M_codeTo (M_cd v))), ((q 11), aI K 280 (M_labelName (M_cd v))), ((q 12), aI K 280 (M_labelAt (M_cd v))), ((q 13), aI K 64 (M_data (M_cd v))), ((q 14), aZ K 32 (M_hasData (M_rd v))), ((q 15), aI K 314 (M_s (M_rn v))), ((q 16), aI K 314 (M_aside (M_ex v))), ((q 17), aI K 314 (M_further (M_ex v))), ((q 18), aI K 314 (M_image (M_im v))), ((q 19), aI K 3 (M_sizeNow (M_rn v))), ((q 20), aI K 8 (M_aloneRegister (M_al v))), ((q 21), aI K 4 (M_aloneReal (M_al v))), ((q 22), aI K 32 (M_aloneMemory (M_al v))), ((q 23), aI K 999 (M_aloneOutput (M_al v)))]) rfl ?_
  refine r_aload_n (pc := 0) cx dX10_go_0 0 rfl ?_
  refine r_iconst (pc := 1) cx dX10_go_1 ic_0 ?_
  refine r_putI (pc := 2) (ws' := [((q 0), ob 9 [.int (0 : Int32), .ref (q 1), .int (M_taped (M_tp v)), .ref (q 2), .ref (q 3), .ref (q 4), .ref (q 5), .ref (q 6), .ref (q 7), .ref (q 8), .ref (q 9), .ref (q 10), .ref (q 11), .ref (q 12), .ref (q 13), .ref (q 14), .int (M_lines (M_rd v)), .int (M_size (M_rd v)), .int (M_at (M_rd v)), .int (M_place (M_rd v)), .int (M_sort (M_rd v)), .int (M_value (M_rd v)), .int (M_fault (M_rd v)), .int (M_faultPlace (M_rd v)), .int (M_lastFault (M_lf v)), .int (M_lastPlace (M_lf v)), .ref (q 15), .ref (q 16), .ref (q 17), .ref (q 18), .int (M_hasImage (M_im v)), .int (M_spanNow (M_rn v)), .ref (q 19), .int (M_placeThen (M_rn v)), .int (M_alonePlace (M_al v)), .int (M_aloneSteps (M_al v)), .int (M_aloneOut (M_al v)), .ref (q 20), .ref (q 21), .ref (q 22), .ref (q 23), .int (M_shotAlarm (M_ex v)), .int (M_drawn (M_ex v))]), ((q 1), aI K 700 (M_tape (M_tp v))), ((q 2), aI K 20 (M_number (M_cd v))), ((q 3), aZ K 5 (M_isTold (M_rd v))), ((q 4), aI K 80 (M_codeSort (M_cd v))), ((q 5), aI K 80 (M_codeA (M_cd v))), ((q 6), aI K 80 (M_codeB (M_cd v))), ((q 7), aI K 80 (M_codeC (M_cd v))), ((q 8), aI K 80 (M_codeName (M_cd v))), ((q 9), aI K 80 (M_codePlace (M_cd v))), ((q 10), aI K 80 (M_codeTo (M_cd v))), ((q 11), aI K 280 (M_labelName (M_cd v))), ((q 12), aI K 280 (M_labelAt (M_cd v))), ((q 13), aI K 64 (M_data (M_cd v))), ((q 14), aZ K 32 (M_hasData (M_rd v))), ((q 15), aI K 314 (M_s (M_rn v))), ((q 16), aI K 314 (M_aside (M_ex v))), ((q 17), aI K 314 (M_further (M_ex v))), ((q 18), aI K 314 (M_image (M_im v))), ((q 19), aI K 3 (M_sizeNow (M_rn v))), ((q 20), aI K 8 (M_aloneRegister (M_al v))), ((q 21), aI K 4 (M_aloneReal (M_al v))), ((q 22), aI K 32 (M_aloneMemory (M_al v))), ((q 23), aI K 999 (M_aloneOutput (M_al v)))]) cx cf_X10 0 0 rfl (by decide) (Nat.le_of_ble_eq_true rfl) rfl pfd_I wd_1316 dX10_go_2 rfl ?_
  refine r_iload_n (pc := 5) cx dX10_go_5 1 rfl ?_
  refine r_if_lt (pc := 6) (tgt := 16) cx dX10_go_6 (by decide) (fun h1 => ?_) (fun h1 => ?_)
  · have hf := ifp h1 hf
    refine r_iconst (pc := 16) cx dX10_go_16 ic_m1 ?_
    cases hf
    exact r_iret (pc := 17) cx rfl rfl dX10_go_17
  · have hf := ifn h1 hf
    refine r_iload_n (pc := 9) cx dX10_go_9 1 rfl ?_
    refine r_sipush (pc := 10) cx dX10_go_10 sp_300 ?_
    refine r_icmp_le (pc := 13) (tgt := 18) cx dX10_go_13 (by decide) (fun h2 => ?_) (fun h2 => ?_)
    · have hf := ifp h2 hf
      refine r_iconst (pc := 18) cx dX10_go_18 ic_0 ?_
      refine r_istore_n (pc := 19) (loc' := [(2, .int (0 : Int32)), (0, .ref (q 0)), (1, .int a1)]) cx dX10_go_19 rfl (by decide) rfl ?_
      have hL20 : ∀ (k20_39 : Int32 → T_M → Option (Int32 × T_M)), (∀ (x5 : Int32) (v6 : T_M), k20_39 x5 v6 = some (r_, o_v) → WW p l e rm_M_go s m args below meth c D A 3 0 0 (MQ below (QI D K A r_ (cl_M K q o_v)) args s 0 0 A) ([((q 0), ob 9 [.int (M_thrown v6), .ref (q 1), .int (M_taped (M_tp v6)), .ref (q 2), .ref (q 3), .ref (q 4), .ref (q 5), .ref (q 6), .ref (q 7), .ref (q 8), .ref (q 9), .ref (q 10), .ref (q 11), .ref (q 12), .ref (q 13), .ref (q 14), .int (M_lines (M_rd v6)), .int (M_size (M_rd v6)), .int (M_at (M_rd v6)), .int (M_place (M_rd v6)), .int (M_sort (M_rd v6)), .int (M_value (M_rd v6)), .int (M_fault (M_rd v6)), .int (M_faultPlace (M_rd v6)), .int (M_lastFault (M_lf v6)), .int (M_lastPlace (M_lf v6)), .ref (q 15), .ref (q 16), .ref (q 17), .ref (q 18), .int (M_hasImage (M_im v6)), .int (M_spanNow (M_rn v6)), .ref (q 19), .int (M_placeThen (M_rn v6)), .int (M_alonePlace (M_al v6)), .int (M_aloneSteps (M_al v6)), .int (M_aloneOut (M_al v6)), .ref (q 20), .ref (q 21), .ref (q 22), .ref (q 23), .int (M_shotAlarm (M_ex v6)), .int (M_drawn (M_ex v6))]), ((q 1), aI K 700 (M_tape (M_tp v6))), ((q 2), aI K 20 (M_number (M_cd v6))), ((q 3), aZ K 5 (M_isTold (M_rd v6))), ((q 4), aI K 80 (M_codeSort (M_cd v6))), ((q 5), aI K 80 (M_codeA (M_cd v6))), ((q 6), aI K 80 (M_codeB (M_cd v6))), ((q 7), aI K 80 (M_codeC (M_cd v6))), ((q 8), aI K 80 (M_codeName (M_cd v6))), ((q 9), aI K 80 (M_codePlace (M_cd v6))), ((q 10), aI K 80 (M_codeTo (M_cd v6))), ((q 11), aI K 280 (M_labelName (M_cd v6))), ((q 12), aI K 280 (M_labelAt (M_cd v6))), ((q 13), aI K 64 (M_data (M_cd v6))), ((q 14), aZ K 32 (M_hasData (M_rd v6))), ((q 15), aI K 314 (M_s (M_rn v6))), ((q 16), aI K 314 (M_aside (M_ex v6))), ((q 17), aI K 314 (M_further (M_ex v6))), ((q 18), aI K 314 (M_image (M_im v6))), ((q 19), aI K 3 (M_sizeNow (M_rn v6))), ((q 20), aI K 8 (M_aloneRegister (M_al v6))), ((q 21), aI K 4 (M_aloneReal (M_al v6))), ((q 22), aI K 32 (M_aloneMemory (M_al v6))), ((q 23), aI K 999 (M_aloneOutput (M_al v6)))]) ([(2, .int x5)]) ([]) 39) → ∀ (n20 : Nat) (x3 : Int32) (v4 : T_M), f_M_go_L20 a1 k20_39 n20 x3 v4 = some (r_, o_v) → WW p l e rm_M_go s m args below meth c D A 3 0 0 (MQ below (QI D K A r_ (cl_M K q o_v)) args s 0 0 A) ([((q 0), ob 9 [.int (M_thrown v4), .ref (q 1), .int (M_taped (M_tp v4)), .ref (q 2), .ref (q 3), .ref (q 4), .ref (q 5), .ref (q 6), .ref (q 7), .ref (q 8), .ref (q 9), .ref (q 10), .ref (q 11), .ref (q 12), .ref (q 13), .ref (q 14), .int (M_lines (M_rd v4)), .int (M_size (M_rd v4)), .int (M_at (M_rd v4)), .int (M_place (M_rd v4)), .int (M_sort (M_rd v4)), .int (M_value (M_rd v4)), .int (M_fault (M_rd v4)), .int (M_faultPlace (M_rd v4)), .int (M_lastFault (M_lf v4)), .int (M_lastPlace (M_lf v4)), .ref (q 15), .ref (q 16), .ref (q 17), .ref (q 18), .int (M_hasImage (M_im v4)), .int (M_spanNow (M_rn v4)), .ref (q 19), .int (M_placeThen (M_rn v4)), .int (M_alonePlace (M_al v4)), .int (M_aloneSteps (M_al v4)), .int (M_aloneOut (M_al v4)), .ref (q 20), .ref (q 21), .ref (q 22), .ref (q 23), .int (M_shotAlarm (M_ex v4)), .int (M_drawn (M_ex v4))]), ((q 1), aI K 700 (M_tape (M_tp v4))), ((q 2), aI K 20 (M_number (M_cd v4))), ((q 3), aZ K 5 (M_isTold (M_rd v4))), ((q 4), aI K 80 (M_codeSort (M_cd v4))), ((q 5), aI K 80 (M_codeA (M_cd v4))), ((q 6), aI K 80 (M_codeB (M_cd v4))), ((q 7), aI K 80 (M_codeC (M_cd v4))), ((q 8), aI K 80 (M_codeName (M_cd v4))), ((q 9), aI K 80 (M_codePlace (M_cd v4))), ((q 10), aI K 80 (M_codeTo (M_cd v4))), ((q 11), aI K 280 (M_labelName (M_cd v4))), ((q 12), aI K 280 (M_labelAt (M_cd v4))), ((q 13), aI K 64 (M_data (M_cd v4))), ((q 14), aZ K 32 (M_hasData (M_rd v4))), ((q 15), aI K 314 (M_s (M_rn v4))), ((q 16), aI K 314 (M_aside (M_ex v4))), ((q 17), aI K 314 (M_further (M_ex v4))), ((q 18), aI K 314 (M_image (M_im v4))), ((q 19), aI K 3 (M_sizeNow (M_rn v4))), ((q 20), aI K 8 (M_aloneRegister (M_al v4))), ((q 21), aI K 4 (M_aloneReal (M_al v4))), ((q 22), aI K 32 (M_aloneMemory (M_al v4))), ((q 23), aI K 999 (M_aloneOutput (M_al v4)))]) ([(0, .ref (q 0)), (1, .int a1), (2, .int x3)]) ([]) 20 := by
        intro k20_39 hk20_39 n20
        induction n20 with
        | zero => intro x3 v4 hf; exact (nomatch (show (none : Option (Int32 × T_M)) = some _ from hf))
        | succ n20 ih20 =>
          intro x3 v4 hf
          rw [f_M_go_L20] at hf
          refine r_iload_n (pc := 20) cx dX10_go_20 2 rfl ?_
          refine r_iload_n (pc := 21) cx dX10_go_21 1 rfl ?_
          refine r_icmp_ge (pc := 22) (tgt := 39) cx dX10_go_22 (by decide) (fun h7 => ?_) (fun h7 => ?_)
          · have hf := ifp h7 hf
            refine r_loc (loc' := [(2, .int x3)]) [2] rfl ?_
            exact hk20_39 _ _ hf
          · have hf := ifn h7 hf
            refine r_aload_n (pc := 25) cx dX10_go_25 0 rfl ?_
            refine r_iconst (pc := 26) cx dX10_go_26 ic_0 ?_
            obtain ⟨r8, v9, hc10, hf⟩ := bd2_of hf
            refine r_Vi (pc := 27) (ws' := [((q 0), ob 9 [.int (M_thrown v9), .ref (q 1), .int (M_taped (M_tp v9)), .ref (q 2), .ref (q 3), .ref (q 4), .ref (q 5), .ref (q 6), .ref (q 7), .ref (q 8), .ref (q 9), .ref (q 10), .ref (q 11), .ref (q 12), .ref (q 13), .ref (q 14), .int (M_lines (M_rd v9)), .int (M_size (M_rd v9)), .int (M_at (M_rd v9)), .int (M_place (M_rd v9)), .int (M_sort (M_rd v9)), .int (M_value (M_rd v9)), .int (M_fault (M_rd v9)), .int (M_faultPlace (M_rd v9)), .int (M_lastFault (M_lf v9)), .int (M_lastPlace (M_lf v9)), .ref (q 15), .ref (q 16), .ref (q 17), .ref (q 18), .int (M_hasImage (M_im v9)), .int (M_spanNow (M_rn v9)), .ref (q 19), .int (M_placeThen (M_rn v9)), .int (M_alonePlace (M_al v9)), .int (M_aloneSteps (M_al v9)), .int (M_aloneOut (M_al v9)), .ref (q 20), .ref (q 21), .ref (q 22), .ref (q 23), .int (M_shotAlarm (M_ex v9)), .int (M_drawn (M_ex v9))]), ((q 1), aI K 700 (M_tape (M_tp v9))), ((q 2), aI K 20 (M_number (M_cd v9))), ((q 3), aZ K 5 (M_isTold (M_rd v9))), ((q 4), aI K 80 (M_codeSort (M_cd v9))), ((q 5), aI K 80 (M_codeA (M_cd v9))), ((q 6), aI K 80 (M_codeB (M_cd v9))), ((q 7), aI K 80 (M_codeC (M_cd v9))), ((q 8), aI K 80 (M_codeName (M_cd v9))), ((q 9), aI K 80 (M_codePlace (M_cd v9))), ((q 10), aI K 80 (M_codeTo (M_cd v9))), ((q 11), aI K 280 (M_labelName (M_cd v9))), ((q 12), aI K 280 (M_labelAt (M_cd v9))), ((q 13), aI K 64 (M_data (M_cd v9))), ((q 14), aZ K 32 (M_hasData (M_rd v9))), ((q 15), aI K 314 (M_s (M_rn v9))), ((q 16), aI K 314 (M_aside (M_ex v9))), ((q 17), aI K 314 (M_further (M_ex v9))), ((q 18), aI K 314 (M_image (M_im v9))), ((q 19), aI K 3 (M_sizeNow (M_rn v9))), ((q 20), aI K 8 (M_aloneRegister (M_al v9))), ((q 21), aI K 4 (M_aloneReal (M_al v9))), ((q 22), aI K 32 (M_aloneMemory (M_al v9))), ((q 23), aI K 999 (M_aloneOutput (M_al v9)))]) cx [.int (0 : Int32)] [] [0, 1, 2, 3, 4, 5, 6, 7, 8, 9, 10, 11, 12, 13, 14, 15, 16, 17, 18, 19, 20, 21, 22, 23] (m_M_turns l D K q v4 (0 : Int32) hc10) yv_X10_turns wd_1568 ⟨rfl, rfl⟩ (by decide) rfl rfl rfl (by decide) 0 rfl rfl rfl (Nat.le_of_ble_eq_true rfl) dX10_go_27 ?_
            refine r_if_eq (pc := 30) (tgt := 39) cx dX10_go_30 (by decide) (fun h11 => ?_) (fun h11 => ?_)
            · have hf := ifp h11 hf
              refine r_loc (loc' := [(2, .int x3)]) [2] rfl ?_
              exact hk20_39 _ _ hf
            · have hf := ifn h11 hf
              obtain ⟨x12, ex12, hf⟩ := nm_of hf
              refine r_iinc (pc := 33) (loc' := [(2, .int x12), (0, .ref (q 0)), (1, .int a1)]) (v := x12) cx dX10_go_33 2 rfl ((congrArg (fun z => x3 + z) ic_1).trans ex12.symm) (by decide) rfl ?_
              refine r_goto (pc := 36) (tgt := 20) cx dX10_go_36 (by decide) ?_
              refine r_loc (loc' := [(0, .ref (q 0)), (1, .int a1), (2, .int x12)]) [1, 2, 0] rfl ?_
              exact ih20 _ _ hf
      refine r_loc (loc' := [(0, .ref (q 0)), (1, .int a1), (2, .int (0 : Int32))]) [1, 2, 0] rfl ?_
      refine hL20 _ (fun x5 v6 hf => ?_) _ _ _ hf
      refine r_iload_n (pc := 39) cx dX10_go_39 0 rfl ?_
      cases hf
      exact r_iret (pc := 40) cx rfl rfl dX10_go_40
    · have hf := ifn h2 hf
      refine r_iconst (pc := 16) cx dX10_go_16 ic_m1 ?_
      cases hf
      exact r_iret (pc := 17) cx rfl rfl dX10_go_17
theorem yv_X10_go : YV yX10_go cX10_go 3 (some .int) 1 := ⟨⟨by decide +kernel, by decide +kernel, by decide +kernel⟩, wd_1567, wd_102, wd_1565, wd_1566⟩
def f_M_isBit (a0 : Int32) (a1 : Int32) : Option (Int32) :=
  (if a0 < (0 : Int32) then (some (0 : Int32)) else (if a1 ≤ a0 then (some (0 : Int32)) else (some (1 : Int32))))
abbrev rm_M_isBit : Room := { frames := 0, cells := 0, slots := 0, locals := 0 }
set_option maxRecDepth 100000 in
set_option maxHeartbeats 4000000 in
theorem m_M_isBit (l : Launch) (D : va_G) (K : Nat → ClassId) (a0 : Int32) (a1 : Int32) {r_ : Int32} (hf : f_M_isBit a0 a1 = some r_) : MI l yX10_isBit cX10_isBit 2 (some .boolean) rm_M_isBit D K [.int a0, .int a1] ([]) r_ ([]) := by
  refine MI_of (loc0 := [(0, .int a0), (1, .int a1)]) (by decide +kernel) rfl (Nat.le_of_ble_eq_true rfl) ?_
  intro p e s m args below meth c A cx
  unfold f_M_isBit at hf
  refine r_ws (ws' := []) rfl ?_
  refine r_iload_n (pc := 0) cx dX10_isBit_0 0 rfl ?_
  refine r_if_lt (pc := 1) (tgt := 13) cx dX10_isBit_1 (by decide) (fun h1 => ?_) (fun h1 => ?_)
  · have hf := ifp h1 hf
    refine r_iconst (pc := 13) cx dX10_isBit_13 ic_0 ?_
    cases hf
    exact r_zret (pc := 14) cx (Or.inl rfl) rfl rfl dX10_isBit_14
  · have hf := ifn h1 hf
    refine r_iload_n (pc := 4) cx dX10_isBit_4 0 rfl ?_
    refine r_iload_n (pc := 5) cx dX10_isBit_5 1 rfl ?_
    refine r_icmp_ge (pc := 6) (tgt := 13) cx dX10_isBit_6 (by decide) (fun h2 => ?_) (fun h2 => ?_)
    · have hf := ifp h2 hf
      refine r_iconst (pc := 13) cx dX10_isBit_13 ic_0 ?_
      cases hf
      exact r_zret (pc := 14) cx (Or.inl rfl) rfl rfl dX10_isBit_14
    · have hf := ifn h2 hf
      refine r_iconst (pc := 9) cx dX10_isBit_9 ic_1 ?_
      refine r_goto (pc := 10) (tgt := 14) cx dX10_isBit_10 (by decide) ?_
      cases hf
      exact r_zret (pc := 14) cx (Or.inr rfl) rfl rfl dX10_isBit_14
theorem ys_X10_isBit : YS yX10_isBit cX10_isBit 2 (some .boolean) 2 := ⟨⟨by decide +kernel, by decide +kernel, by decide +kernel⟩, wd_1709, wd_102, wd_1708⟩
def f_M_flippedAt (v : T_M) (a1 : Int32) (a2 : Int32) (a3 : Int32) : Option (Int32) :=
  (if (0 : Int32) ≤ a2 then (if a1 = (0 : Int32) then (if (8 : Int32) ≤ a2 then (some (-1 : Int32)) else (bd (f_M_isBit a3 (32 : Int32)) fun (r4 : Int32) => (if r4 = (0 : Int32) then (some (-1 : Int32)) else (some (((4 : Int32) + ((8 : Int32) * a1)) + a2))))) else (if a1 = (1 : Int32) then (if (8 : Int32) ≤ a2 then (some (-1 : Int32)) else (bd (f_M_isBit a3 (32 : Int32)) fun (r9 : Int32) => (if r9 = (0 : Int32) then (some (-1 : Int32)) else (some (((4 : Int32) + ((8 : Int32) * a1)) + a2))))) else (if a1 = (2 : Int32) then (if (4 : Int32) ≤ a2 then (some (-1 : Int32)) else (bd (f_M_isBit a3 (32 : Int32)) fun (r14 : Int32) => (if r14 = (0 : Int32) then (some (-1 : Int32)) else (some (((20 : Int32) + ((4 : Int32) * (a1 - (2 : Int32)))) + a2))))) else (if a1 = (3 : Int32) then (if (4 : Int32) ≤ a2 then (some (-1 : Int32)) else (bd (f_M_isBit a3 (32 : Int32)) fun (r19 : Int32) => (if r19 = (0 : Int32) then (some (-1 : Int32)) else (some (((20 : Int32) + ((4 : Int32) * (a1 - (2 : Int32)))) + a2))))) else (if a1 = (4 : Int32) then (if a2 = (0 : Int32) then (bd (f_M_isBit a3 (6 : Int32)) fun (r24 : Int32) => (if r24 = (0 : Int32) then (some (-1 : Int32)) else (some (((0 : Int32) + a1) - (4 : Int32))))) else (some (-1 : Int32))) else (if a1 = (5 : Int32) then (if a2 = (0 : Int32) then (bd (f_M_isBit a3 (6 : Int32)) fun (r29 : Int32) => (if r29 = (0 : Int32) then (some (-1 : Int32)) else (some (((0 : Int32) + a1) - (4 : Int32))))) else (some (-1 : Int32))) else (if a1 = (6 : Int32) then (if ((M_s (M_rn v)) (86 : Int32).toNatClampNeg) ≤ a2 then (some (-1 : Int32)) else (bd (f_M_isBit a3 (5 : Int32)) fun (r34 : Int32) => (if r34 = (0 : Int32) then (some (-1 : Int32)) else (some ((87 : Int32) + a2))))) else (if a1 = (7 : Int32) then (if ((M_s (M_rn v)) (86 : Int32).toNatClampNeg) ≤ a2 then (some (-1 : Int32)) else (bd (f_M_isBit a3 (32 : Int32)) fun (r39 : Int32) => (if r39 = (0 : Int32) then (some (-1 : Int32)) else (some ((95 : Int32) + a2))))) else (if a1 = (8 : Int32) then (if ((M_s (M_rn v)) (103 : Int32).toNatClampNeg) ≤ a2 then (some (-1 : Int32)) else (bd (f_M_isBit a3 (1 : Int32)) fun (r44 : Int32) => (if r44 = (0 : Int32) then (some (-1 : Int32)) else (some ((104 : Int32) + a2))))) else (if a1 = (9 : Int32) then (if ((M_s (M_rn v)) (112 : Int32).toNatClampNeg) ≤ a2 then (some (-1 : Int32)) else (bd (f_M_isBit a3 (6 : Int32)) fun (r49 : Int32) => (if r49 = (0 : Int32) then (some (-1 : Int32)) else (some ((114 : Int32) + a2))))) else (if a1 = (10 : Int32) then (if ((M_s (M_rn v)) (112 : Int32).toNatClampNeg) ≤ a2 then (some (-1 : Int32)) else (bd (f_M_isBit a3 (32 : Int32)) fun (r54 : Int32) => (if r54 = (0 : Int32) then (some (-1 : Int32)) else (some ((122 : Int32) + a2))))) else (if a1 = (11 : Int32) then (if ((M_s (M_rn v)) (113 : Int32).toNatClampNeg) ≤ a2 then (some (-1 : Int32)) else (bd (f_M_isBit a3 (6 : Int32)) fun (r59 : Int32) => (if r59 = (0 : Int32) then (some (-1 : Int32)) else (some ((130 : Int32) + a2))))) else (if a1 = (12 : Int32) then (if ((M_s (M_rn v)) (113 : Int32).toNatClampNeg) ≤ a2 then (some (-1 : Int32)) else (bd (f_M_isBit a3 (32 : Int32)) fun (r64 : Int32) => (if r64 = (0 : Int32) then (some (-1 : Int32)) else (some ((138 : Int32) + a2))))) else (some (-1 : Int32))))))))))))))) else (some (-1 : Int32)))
abbrev rm_M_flippedAt : Room := { frames := 1, cells := 0, slots := 0, locals := 21 }
set_option maxRecDepth 100000 in
set_option maxHeartbeats 4000000 in
theorem m_M_flippedAt (l : Launch) (D : va_G) (K : Nat → ClassId) (q : Nat → Nat) (v : T_M) (a1 : Int32) (a2 : Int32) (a3 : Int32) {r_ : Int32} (hf : f_M_flippedAt v a1 a2 a3 = some r_) : MI l yX10_flippedAt cX10_flippedAt 4 (some .int) rm_M_flippedAt D K [.ref (q 0), .int a1, .int a2, .int a3] (cl_M K q v) r_ (cl_M K q v) := by
  refine MI_of (loc0 := [(0, .ref (q 0)), (1, .int a1), (2, .int a2), (3, .int a3)]) (by decide +kernel) rfl (Nat.le_of_ble_eq_true rfl) ?_
  intro p e s m args below meth c A cx
  unfold f_M_flippedAt at hf
  refine r_ws (ws' := [((q 0), ob 9 [.int (M_thrown v), .ref (q 1), .int (M_taped (M_tp v)), .ref (q 2), .ref (q 3), .ref (q 4), .ref (q 5), .ref (q 6), .ref (q 7), .ref (q 8), .ref (q 9), .ref (q 10), .ref (q 11), .ref (q 12), .ref (q 13), .ref (q 14), .int (M_lines (M_rd v)), .int (M_size (M_rd v)), .int (M_at (M_rd v)), .int (M_place (M_rd v)), .int (M_sort (M_rd v)), .int (M_value (M_rd v)), .int (M_fault (M_rd v)), .int (M_faultPlace (M_rd v)), .int (M_lastFault (M_lf v)), .int (M_lastPlace (M_lf v)), .ref (q 15), .ref (q 16), .ref (q 17), .ref (q 18), .int (M_hasImage (M_im v)), .int (M_spanNow (M_rn v)), .ref (q 19), .int (M_placeThen (M_rn v)), .int (M_alonePlace (M_al v)), .int (M_aloneSteps (M_al v)), .int (M_aloneOut (M_al v)), .ref (q 20), .ref (q 21), .ref (q 22), .ref (q 23), .int (M_shotAlarm (M_ex v)), .int (M_drawn (M_ex v))]), ((q 1), aI K 700 (M_tape (M_tp v))), ((q 2), aI K 20 (M_number (M_cd v))), ((q 3), aZ K 5 (M_isTold (M_rd v))), ((q 4), aI K 80 (M_codeSort (M_cd v))), ((q 5), aI K 80 (M_codeA (M_cd v))), ((q 6), aI K 80 (M_codeB (M_cd v))), ((q 7), aI K 80 (M_codeC (M_cd v))), ((q 8), aI K 80 (M_codeName (M_cd v))), ((q 9), aI K 80 (M_codePlace (M_cd v))), ((q 10), aI K 80 (M_codeTo (M_cd v))), ((q 11), aI K 280 (M_labelName (M_cd v))), ((q 12), aI K 280 (M_labelAt (M_cd v))), ((q 13), aI K 64 (M_data (M_cd v))), ((q 14), aZ K 32 (M_hasData (M_rd v))), ((q 15), aI K 314 (M_s (M_rn v))), ((q 16), aI K 314 (M_aside (M_ex v))), ((q 17), aI K 314 (M_further (M_ex v))), ((q 18), aI K 314 (M_image (M_im v))), ((q 19), aI K 3 (M_sizeNow (M_rn v))), ((q 20), aI K 8 (M_aloneRegister (M_al v))), ((q 21), aI K 4 (M_aloneReal (M_al v))), ((q 22), aI K 32 (M_aloneMemory (M_al v))), ((q 23), aI K 999 (M_aloneOutput (M_al v)))]) rfl ?_
  refine r_iload_n (pc := 0) cx dX10_flippedAt_0 2 rfl ?_
  refine r_if_ge (pc := 1) (tgt := 6) cx dX10_flippedAt_1 (by decide) (fun h1 => ?_) (fun h1 => ?_)
  · have hf := ifp h1 hf
    refine r_iload_n (pc := 6) cx dX10_flippedAt_6 1 rfl ?_
    by_cases h2 : a1 = (0 : Int32)
    · have hf := ifp h2 hf
      refine r_tin (pc := 7) (tgt := 72) cx (0 : Int32) h2 dX10_flippedAt_7 (by decide) (by decide) rfl (by decide) ?_
      refine r_iload_n (pc := 72) cx dX10_flippedAt_72 2 rfl ?_
      refine r_bipush (pc := 73) cx dX10_flippedAt_73 bp_8 ?_
      refine r_icmp_ge (pc := 75) (tgt := 98) cx dX10_flippedAt_75 (by decide) (fun h3 => ?_) (fun h3 => ?_)
      · have hf := ifp h3 hf
        refine r_iconst (pc := 98) cx dX10_flippedAt_98 ic_m1 ?_
        cases hf
        exact r_iret (pc := 99) cx rfl rfl dX10_flippedAt_99
      · have hf := ifn h3 hf
        refine r_iload_n (pc := 78) cx dX10_flippedAt_78 3 rfl ?_
        refine r_bipush (pc := 79) cx dX10_flippedAt_79 bp_32 ?_
        obtain ⟨r4, hc5, hf⟩ := bd_of hf
        refine r_Si (pc := 81) (ws' := [((q 0), ob 9 [.int (M_thrown v), .ref (q 1), .int (M_taped (M_tp v)), .ref (q 2), .ref (q 3), .ref (q 4), .ref (q 5), .ref (q 6), .ref (q 7), .ref (q 8), .ref (q 9), .ref (q 10), .ref (q 11), .ref (q 12), .ref (q 13), .ref (q 14), .int (M_lines (M_rd v)), .int (M_size (M_rd v)), .int (M_at (M_rd v)), .int (M_place (M_rd v)), .int (M_sort (M_rd v)), .int (M_value (M_rd v)), .int (M_fault (M_rd v)), .int (M_faultPlace (M_rd v)), .int (M_lastFault (M_lf v)), .int (M_lastPlace (M_lf v)), .ref (q 15), .ref (q 16), .ref (q 17), .ref (q 18), .int (M_hasImage (M_im v)), .int (M_spanNow (M_rn v)), .ref (q 19), .int (M_placeThen (M_rn v)), .int (M_alonePlace (M_al v)), .int (M_aloneSteps (M_al v)), .int (M_aloneOut (M_al v)), .ref (q 20), .ref (q 21), .ref (q 22), .ref (q 23), .int (M_shotAlarm (M_ex v)), .int (M_drawn (M_ex v))]), ((q 1), aI K 700 (M_tape (M_tp v))), ((q 2), aI K 20 (M_number (M_cd v))), ((q 3), aZ K 5 (M_isTold (M_rd v))), ((q 4), aI K 80 (M_codeSort (M_cd v))), ((q 5), aI K 80 (M_codeA (M_cd v))), ((q 6), aI K 80 (M_codeB (M_cd v))), ((q 7), aI K 80 (M_codeC (M_cd v))), ((q 8), aI K 80 (M_codeName (M_cd v))), ((q 9), aI K 80 (M_codePlace (M_cd v))), ((q 10), aI K 80 (M_codeTo (M_cd v))), ((q 11), aI K 280 (M_labelName (M_cd v))), ((q 12), aI K 280 (M_labelAt (M_cd v))), ((q 13), aI K 64 (M_data (M_cd v))), ((q 14), aZ K 32 (M_hasData (M_rd v))), ((q 15), aI K 314 (M_s (M_rn v))), ((q 16), aI K 314 (M_aside (M_ex v))), ((q 17), aI K 314 (M_further (M_ex v))), ((q 18), aI K 314 (M_image (M_im v))), ((q 19), aI K 3 (M_sizeNow (M_rn v))), ((q 20), aI K 8 (M_aloneRegister (M_al v))), ((q 21), aI K 4 (M_aloneReal (M_al v))), ((q 22), aI K 32 (M_aloneMemory (M_al v))), ((q 23), aI K 999 (M_aloneOutput (M_al v)))]) cx [.int a3, .int (32 : Int32)] [] [] (m_M_isBit l D K a3 (32 : Int32) hc5) ys_X10_isBit wd_1707 ⟨rfl, rfl⟩ (by decide) rfl rfl rfl (by decide) rfl (Nat.le_of_ble_eq_true rfl) dX10_flippedAt_81 ?_
        refine r_if_eq (pc := 84) (tgt := 98) cx dX10_flippedAt_84 (by decide) (fun h6 => ?_) (fun h6 => ?_)
        · have hf := ifp h6 hf
          refine r_iconst (pc := 98) cx dX10_flippedAt_98 ic_m1 ?_
          cases hf
          exact r_iret (pc := 99) cx rfl rfl dX10_flippedAt_99
        · have hf := ifn h6 hf
          refine r_iconst (pc := 87) cx dX10_flippedAt_87 ic_4 ?_
          refine r_bipush (pc := 88) cx dX10_flippedAt_88 bp_8 ?_
          refine r_iload_n (pc := 90) cx dX10_flippedAt_90 1 rfl ?_
          refine r_imul (pc := 91) cx dX10_flippedAt_91 ?_
          refine r_iadd (pc := 92) cx dX10_flippedAt_92 ?_
          refine r_iload_n (pc := 93) cx dX10_flippedAt_93 2 rfl ?_
          refine r_iadd (pc := 94) cx dX10_flippedAt_94 ?_
          refine r_goto (pc := 95) (tgt := 99) cx dX10_flippedAt_95 (by decide) ?_
          cases hf
          exact r_iret (pc := 99) cx rfl rfl dX10_flippedAt_99
    · have hf := ifn h2 hf
      by_cases h7 : a1 = (1 : Int32)
      · have hf := ifp h7 hf
        refine r_tin (pc := 7) (tgt := 72) cx (1 : Int32) h7 dX10_flippedAt_7 (by decide) (by decide) rfl (by decide) ?_
        refine r_iload_n (pc := 72) cx dX10_flippedAt_72 2 rfl ?_
        refine r_bipush (pc := 73) cx dX10_flippedAt_73 bp_8 ?_
        refine r_icmp_ge (pc := 75) (tgt := 98) cx dX10_flippedAt_75 (by decide) (fun h8 => ?_) (fun h8 => ?_)
        · have hf := ifp h8 hf
          refine r_iconst (pc := 98) cx dX10_flippedAt_98 ic_m1 ?_
          cases hf
          exact r_iret (pc := 99) cx rfl rfl dX10_flippedAt_99
        · have hf := ifn h8 hf
          refine r_iload_n (pc := 78) cx dX10_flippedAt_78 3 rfl ?_
          refine r_bipush (pc := 79) cx dX10_flippedAt_79 bp_32 ?_
          obtain ⟨r9, hc10, hf⟩ := bd_of hf
          refine r_Si (pc := 81) (ws' := [((q 0), ob 9 [.int (M_thrown v), .ref (q 1), .int (M_taped (M_tp v)), .ref (q 2), .ref (q 3), .ref (q 4), .ref (q 5), .ref (q 6), .ref (q 7), .ref (q 8), .ref (q 9), .ref (q 10), .ref (q 11), .ref (q 12), .ref (q 13), .ref (q 14), .int (M_lines (M_rd v)), .int (M_size (M_rd v)), .int (M_at (M_rd v)), .int (M_place (M_rd v)), .int (M_sort (M_rd v)), .int (M_value (M_rd v)), .int (M_fault (M_rd v)), .int (M_faultPlace (M_rd v)), .int (M_lastFault (M_lf v)), .int (M_lastPlace (M_lf v)), .ref (q 15), .ref (q 16), .ref (q 17), .ref (q 18), .int (M_hasImage (M_im v)), .int (M_spanNow (M_rn v)), .ref (q 19), .int (M_placeThen (M_rn v)), .int (M_alonePlace (M_al v)), .int (M_aloneSteps (M_al v)), .int (M_aloneOut (M_al v)), .ref (q 20), .ref (q 21), .ref (q 22), .ref (q 23), .int (M_shotAlarm (M_ex v)), .int (M_drawn (M_ex v))]), ((q 1), aI K 700 (M_tape (M_tp v))), ((q 2), aI K 20 (M_number (M_cd v))), ((q 3), aZ K 5 (M_isTold (M_rd v))), ((q 4), aI K 80 (M_codeSort (M_cd v))), ((q 5), aI K 80 (M_codeA (M_cd v))), ((q 6), aI K 80 (M_codeB (M_cd v))), ((q 7), aI K 80 (M_codeC (M_cd v))), ((q 8), aI K 80 (M_codeName (M_cd v))), ((q 9), aI K 80 (M_codePlace (M_cd v))), ((q 10), aI K 80 (M_codeTo (M_cd v))), ((q 11), aI K 280 (M_labelName (M_cd v))), ((q 12), aI K 280 (M_labelAt (M_cd v))), ((q 13), aI K 64 (M_data (M_cd v))), ((q 14), aZ K 32 (M_hasData (M_rd v))), ((q 15), aI K 314 (M_s (M_rn v))), ((q 16), aI K 314 (M_aside (M_ex v))), ((q 17), aI K 314 (M_further (M_ex v))), ((q 18), aI K 314 (M_image (M_im v))), ((q 19), aI K 3 (M_sizeNow (M_rn v))), ((q 20), aI K 8 (M_aloneRegister (M_al v))), ((q 21), aI K 4 (M_aloneReal (M_al v))), ((q 22), aI K 32 (M_aloneMemory (M_al v))), ((q 23), aI K 999 (M_aloneOutput (M_al v)))]) cx [.int a3, .int (32 : Int32)] [] [] (m_M_isBit l D K a3 (32 : Int32) hc10) ys_X10_isBit wd_1707 ⟨rfl, rfl⟩ (by decide) rfl rfl rfl (by decide) rfl (Nat.le_of_ble_eq_true rfl) dX10_flippedAt_81 ?_
          refine r_if_eq (pc := 84) (tgt := 98) cx dX10_flippedAt_84 (by decide) (fun h11 => ?_) (fun h11 => ?_)
          · have hf := ifp h11 hf
            refine r_iconst (pc := 98) cx dX10_flippedAt_98 ic_m1 ?_
            cases hf
            exact r_iret (pc := 99) cx rfl rfl dX10_flippedAt_99
          · have hf := ifn h11 hf
            refine r_iconst (pc := 87) cx dX10_flippedAt_87 ic_4 ?_
            refine r_bipush (pc := 88) cx dX10_flippedAt_88 bp_8 ?_
            refine r_iload_n (pc := 90) cx dX10_flippedAt_90 1 rfl ?_
            refine r_imul (pc := 91) cx dX10_flippedAt_91 ?_
            refine r_iadd (pc := 92) cx dX10_flippedAt_92 ?_
            refine r_iload_n (pc := 93) cx dX10_flippedAt_93 2 rfl ?_
            refine r_iadd (pc := 94) cx dX10_flippedAt_94 ?_
            refine r_goto (pc := 95) (tgt := 99) cx dX10_flippedAt_95 (by decide) ?_
            cases hf
            exact r_iret (pc := 99) cx rfl rfl dX10_flippedAt_99
      · have hf := ifn h7 hf
        by_cases h12 : a1 = (2 : Int32)
        · have hf := ifp h12 hf
          refine r_tin (pc := 7) (tgt := 100) cx (2 : Int32) h12 dX10_flippedAt_7 (by decide) (by decide) rfl (by decide) ?_
          refine r_iload_n (pc := 100) cx dX10_flippedAt_100 2 rfl ?_
          refine r_iconst (pc := 101) cx dX10_flippedAt_101 ic_4 ?_
          refine r_icmp_ge (pc := 102) (tgt := 127) cx dX10_flippedAt_102 (by decide) (fun h13 => ?_) (fun h13 => ?_)
          · have hf := ifp h13 hf
            refine r_iconst (pc := 127) cx dX10_flippedAt_127 ic_m1 ?_
            cases hf
            exact r_iret (pc := 128) cx rfl rfl dX10_flippedAt_128
          · have hf := ifn h13 hf
            refine r_iload_n (pc := 105) cx dX10_flippedAt_105 3 rfl ?_
            refine r_bipush (pc := 106) cx dX10_flippedAt_106 bp_32 ?_
            obtain ⟨r14, hc15, hf⟩ := bd_of hf
            refine r_Si (pc := 108) (ws' := [((q 0), ob 9 [.int (M_thrown v), .ref (q 1), .int (M_taped (M_tp v)), .ref (q 2), .ref (q 3), .ref (q 4), .ref (q 5), .ref (q 6), .ref (q 7), .ref (q 8), .ref (q 9), .ref (q 10), .ref (q 11), .ref (q 12), .ref (q 13), .ref (q 14), .int (M_lines (M_rd v)), .int (M_size (M_rd v)), .int (M_at (M_rd v)), .int (M_place (M_rd v)), .int (M_sort (M_rd v)), .int (M_value (M_rd v)), .int (M_fault (M_rd v)), .int (M_faultPlace (M_rd v)), .int (M_lastFault (M_lf v)), .int (M_lastPlace (M_lf v)), .ref (q 15), .ref (q 16), .ref (q 17), .ref (q 18), .int (M_hasImage (M_im v)), .int (M_spanNow (M_rn v)), .ref (q 19), .int (M_placeThen (M_rn v)), .int (M_alonePlace (M_al v)), .int (M_aloneSteps (M_al v)), .int (M_aloneOut (M_al v)), .ref (q 20), .ref (q 21), .ref (q 22), .ref (q 23), .int (M_shotAlarm (M_ex v)), .int (M_drawn (M_ex v))]), ((q 1), aI K 700 (M_tape (M_tp v))), ((q 2), aI K 20 (M_number (M_cd v))), ((q 3), aZ K 5 (M_isTold (M_rd v))), ((q 4), aI K 80 (M_codeSort (M_cd v))), ((q 5), aI K 80 (M_codeA (M_cd v))), ((q 6), aI K 80 (M_codeB (M_cd v))), ((q 7), aI K 80 (M_codeC (M_cd v))), ((q 8), aI K 80 (M_codeName (M_cd v))), ((q 9), aI K 80 (M_codePlace (M_cd v))), ((q 10), aI K 80 (M_codeTo (M_cd v))), ((q 11), aI K 280 (M_labelName (M_cd v))), ((q 12), aI K 280 (M_labelAt (M_cd v))), ((q 13), aI K 64 (M_data (M_cd v))), ((q 14), aZ K 32 (M_hasData (M_rd v))), ((q 15), aI K 314 (M_s (M_rn v))), ((q 16), aI K 314 (M_aside (M_ex v))), ((q 17), aI K 314 (M_further (M_ex v))), ((q 18), aI K 314 (M_image (M_im v))), ((q 19), aI K 3 (M_sizeNow (M_rn v))), ((q 20), aI K 8 (M_aloneRegister (M_al v))), ((q 21), aI K 4 (M_aloneReal (M_al v))), ((q 22), aI K 32 (M_aloneMemory (M_al v))), ((q 23), aI K 999 (M_aloneOutput (M_al v)))]) cx [.int a3, .int (32 : Int32)] [] [] (m_M_isBit l D K a3 (32 : Int32) hc15) ys_X10_isBit wd_1707 ⟨rfl, rfl⟩ (by decide) rfl rfl rfl (by decide) rfl (Nat.le_of_ble_eq_true rfl) dX10_flippedAt_108 ?_
            refine r_if_eq (pc := 111) (tgt := 127) cx dX10_flippedAt_111 (by decide) (fun h16 => ?_) (fun h16 => ?_)
            · have hf := ifp h16 hf
              refine r_iconst (pc := 127) cx dX10_flippedAt_127 ic_m1 ?_
              cases hf
              exact r_iret (pc := 128) cx rfl rfl dX10_flippedAt_128
            · have hf := ifn h16 hf
              refine r_bipush (pc := 114) cx dX10_flippedAt_114 bp_20 ?_
              refine r_iconst (pc := 116) cx dX10_flippedAt_116 ic_4 ?_
              refine r_iload_n (pc := 117) cx dX10_flippedAt_117 1 rfl ?_
              refine r_iconst (pc := 118) cx dX10_flippedAt_118 ic_2 ?_
              refine r_isub (pc := 119) cx dX10_flippedAt_119 ?_
              refine r_imul (pc := 120) cx dX10_flippedAt_120 ?_
              refine r_iadd (pc := 121) cx dX10_flippedAt_121 ?_
              refine r_iload_n (pc := 122) cx dX10_flippedAt_122 2 rfl ?_
              refine r_iadd (pc := 123) cx dX10_flippedAt_123 ?_
              refine r_goto (pc := 124) (tgt := 128) cx dX10_flippedAt_124 (by decide) ?_
              cases hf
              exact r_iret (pc := 128) cx rfl rfl dX10_flippedAt_128
        · have hf := ifn h12 hf
          by_cases h17 : a1 = (3 : Int32)
          · have hf := ifp h17 hf
            refine r_tin (pc := 7) (tgt := 100) cx (3 : Int32) h17 dX10_flippedAt_7 (by decide) (by decide) rfl (by decide) ?_
            refine r_iload_n (pc := 100) cx dX10_flippedAt_100 2 rfl ?_
            refine r_iconst (pc := 101) cx dX10_flippedAt_101 ic_4 ?_
            refine r_icmp_ge (pc := 102) (tgt := 127) cx dX10_flippedAt_102 (by decide) (fun h18 => ?_) (fun h18 => ?_)
            · have hf := ifp h18 hf
              refine r_iconst (pc := 127) cx dX10_flippedAt_127 ic_m1 ?_
              cases hf
              exact r_iret (pc := 128) cx rfl rfl dX10_flippedAt_128
            · have hf := ifn h18 hf
              refine r_iload_n (pc := 105) cx dX10_flippedAt_105 3 rfl ?_
              refine r_bipush (pc := 106) cx dX10_flippedAt_106 bp_32 ?_
              obtain ⟨r19, hc20, hf⟩ := bd_of hf
              refine r_Si (pc := 108) (ws' := [((q 0), ob 9 [.int (M_thrown v), .ref (q 1), .int (M_taped (M_tp v)), .ref (q 2), .ref (q 3), .ref (q 4), .ref (q 5), .ref (q 6), .ref (q 7), .ref (q 8), .ref (q 9), .ref (q 10), .ref (q 11), .ref (q 12), .ref (q 13), .ref (q 14), .int (M_lines (M_rd v)), .int (M_size (M_rd v)), .int (M_at (M_rd v)), .int (M_place (M_rd v)), .int (M_sort (M_rd v)), .int (M_value (M_rd v)), .int (M_fault (M_rd v)), .int (M_faultPlace (M_rd v)), .int (M_lastFault (M_lf v)), .int (M_lastPlace (M_lf v)), .ref (q 15), .ref (q 16), .ref (q 17), .ref (q 18), .int (M_hasImage (M_im v)), .int (M_spanNow (M_rn v)), .ref (q 19), .int (M_placeThen (M_rn v)), .int (M_alonePlace (M_al v)), .int (M_aloneSteps (M_al v)), .int (M_aloneOut (M_al v)), .ref (q 20), .ref (q 21), .ref (q 22), .ref (q 23), .int (M_shotAlarm (M_ex v)), .int (M_drawn (M_ex v))]), ((q 1), aI K 700 (M_tape (M_tp v))), ((q 2), aI K 20 (M_number (M_cd v))), ((q 3), aZ K 5 (M_isTold (M_rd v))), ((q 4), aI K 80 (M_codeSort (M_cd v))), ((q 5), aI K 80 (M_codeA (M_cd v))), ((q 6), aI K 80 (M_codeB (M_cd v))), ((q 7), aI K 80 (M_codeC (M_cd v))), ((q 8), aI K 80 (M_codeName (M_cd v))), ((q 9), aI K 80 (M_codePlace (M_cd v))), ((q 10), aI K 80 (M_codeTo (M_cd v))), ((q 11), aI K 280 (M_labelName (M_cd v))), ((q 12), aI K 280 (M_labelAt (M_cd v))), ((q 13), aI K 64 (M_data (M_cd v))), ((q 14), aZ K 32 (M_hasData (M_rd v))), ((q 15), aI K 314 (M_s (M_rn v))), ((q 16), aI K 314 (M_aside (M_ex v))), ((q 17), aI K 314 (M_further (M_ex v))), ((q 18), aI K 314 (M_image (M_im v))), ((q 19), aI K 3 (M_sizeNow (M_rn v))), ((q 20), aI K 8 (M_aloneRegister (M_al v))), ((q 21), aI K 4 (M_aloneReal (M_al v))), ((q 22), aI K 32 (M_aloneMemory (M_al v))), ((q 23), aI K 999 (M_aloneOutput (M_al v)))]) cx [.int a3, .int (32 : Int32)] [] [] (m_M_isBit l D K a3 (32 : Int32) hc20) ys_X10_isBit wd_1707 ⟨rfl, rfl⟩ (by decide) rfl rfl rfl (by decide) rfl (Nat.le_of_ble_eq_true rfl) dX10_flippedAt_108 ?_
              refine r_if_eq (pc := 111) (tgt := 127) cx dX10_flippedAt_111 (by decide) (fun h21 => ?_) (fun h21 => ?_)
              · have hf := ifp h21 hf
                refine r_iconst (pc := 127) cx dX10_flippedAt_127 ic_m1 ?_
                cases hf
                exact r_iret (pc := 128) cx rfl rfl dX10_flippedAt_128
              · have hf := ifn h21 hf
                refine r_bipush (pc := 114) cx dX10_flippedAt_114 bp_20 ?_
                refine r_iconst (pc := 116) cx dX10_flippedAt_116 ic_4 ?_
                refine r_iload_n (pc := 117) cx dX10_flippedAt_117 1 rfl ?_
                refine r_iconst (pc := 118) cx dX10_flippedAt_118 ic_2 ?_
                refine r_isub (pc := 119) cx dX10_flippedAt_119 ?_
                refine r_imul (pc := 120) cx dX10_flippedAt_120 ?_
                refine r_iadd (pc := 121) cx dX10_flippedAt_121 ?_
                refine r_iload_n (pc := 122) cx dX10_flippedAt_122 2 rfl ?_
                refine r_iadd (pc := 123) cx dX10_flippedAt_123 ?_
                refine r_goto (pc := 124) (tgt := 128) cx dX10_flippedAt_124 (by decide) ?_
                cases hf
                exact r_iret (pc := 128) cx rfl rfl dX10_flippedAt_128
          · have hf := ifn h17 hf
            by_cases h22 : a1 = (4 : Int32)
            · have hf := ifp h22 hf
              refine r_tin (pc := 7) (tgt := 129) cx (4 : Int32) h22 dX10_flippedAt_7 (by decide) (by decide) rfl (by decide) ?_
              refine r_iload_n (pc := 129) cx dX10_flippedAt_129 2 rfl ?_
              refine r_if_ne (pc := 130) (tgt := 150) cx dX10_flippedAt_130 (by decide) (fun h23 => ?_) (fun h23 => ?_)
              · have hf := ifn h23 hf
                refine r_iconst (pc := 150) cx dX10_flippedAt_150 ic_m1 ?_
                cases hf
                exact r_iret (pc := 151) cx rfl rfl dX10_flippedAt_151
              · have hf := ifp h23 hf
                refine r_iload_n (pc := 133) cx dX10_flippedAt_133 3 rfl ?_
                refine r_bipush (pc := 134) cx dX10_flippedAt_134 bp_6 ?_
                obtain ⟨r24, hc25, hf⟩ := bd_of hf
                refine r_Si (pc := 136) (ws' := [((q 0), ob 9 [.int (M_thrown v), .ref (q 1), .int (M_taped (M_tp v)), .ref (q 2), .ref (q 3), .ref (q 4), .ref (q 5), .ref (q 6), .ref (q 7), .ref (q 8), .ref (q 9), .ref (q 10), .ref (q 11), .ref (q 12), .ref (q 13), .ref (q 14), .int (M_lines (M_rd v)), .int (M_size (M_rd v)), .int (M_at (M_rd v)), .int (M_place (M_rd v)), .int (M_sort (M_rd v)), .int (M_value (M_rd v)), .int (M_fault (M_rd v)), .int (M_faultPlace (M_rd v)), .int (M_lastFault (M_lf v)), .int (M_lastPlace (M_lf v)), .ref (q 15), .ref (q 16), .ref (q 17), .ref (q 18), .int (M_hasImage (M_im v)), .int (M_spanNow (M_rn v)), .ref (q 19), .int (M_placeThen (M_rn v)), .int (M_alonePlace (M_al v)), .int (M_aloneSteps (M_al v)), .int (M_aloneOut (M_al v)), .ref (q 20), .ref (q 21), .ref (q 22), .ref (q 23), .int (M_shotAlarm (M_ex v)), .int (M_drawn (M_ex v))]), ((q 1), aI K 700 (M_tape (M_tp v))), ((q 2), aI K 20 (M_number (M_cd v))), ((q 3), aZ K 5 (M_isTold (M_rd v))), ((q 4), aI K 80 (M_codeSort (M_cd v))), ((q 5), aI K 80 (M_codeA (M_cd v))), ((q 6), aI K 80 (M_codeB (M_cd v))), ((q 7), aI K 80 (M_codeC (M_cd v))), ((q 8), aI K 80 (M_codeName (M_cd v))), ((q 9), aI K 80 (M_codePlace (M_cd v))), ((q 10), aI K 80 (M_codeTo (M_cd v))), ((q 11), aI K 280 (M_labelName (M_cd v))), ((q 12), aI K 280 (M_labelAt (M_cd v))), ((q 13), aI K 64 (M_data (M_cd v))), ((q 14), aZ K 32 (M_hasData (M_rd v))), ((q 15), aI K 314 (M_s (M_rn v))), ((q 16), aI K 314 (M_aside (M_ex v))), ((q 17), aI K 314 (M_further (M_ex v))), ((q 18), aI K 314 (M_image (M_im v))), ((q 19), aI K 3 (M_sizeNow (M_rn v))), ((q 20), aI K 8 (M_aloneRegister (M_al v))), ((q 21), aI K 4 (M_aloneReal (M_al v))), ((q 22), aI K 32 (M_aloneMemory (M_al v))), ((q 23), aI K 999 (M_aloneOutput (M_al v)))]) cx [.int a3, .int (6 : Int32)] [] [] (m_M_isBit l D K a3 (6 : Int32) hc25) ys_X10_isBit wd_1707 ⟨rfl, rfl⟩ (by decide) rfl rfl rfl (by decide) rfl (Nat.le_of_ble_eq_true rfl) dX10_flippedAt_136 ?_
                refine r_if_eq (pc := 139) (tgt := 150) cx dX10_flippedAt_139 (by decide) (fun h26 => ?_) (fun h26 => ?_)
                · have hf := ifp h26 hf
                  refine r_iconst (pc := 150) cx dX10_flippedAt_150 ic_m1 ?_
                  cases hf
                  exact r_iret (pc := 151) cx rfl rfl dX10_flippedAt_151
                · have hf := ifn h26 hf
                  refine r_iconst (pc := 142) cx dX10_flippedAt_142 ic_0 ?_
                  refine r_iload_n (pc := 143) cx dX10_flippedAt_143 1 rfl ?_
                  refine r_iadd (pc := 144) cx dX10_flippedAt_144 ?_
                  refine r_iconst (pc := 145) cx dX10_flippedAt_145 ic_4 ?_
                  refine r_isub (pc := 146) cx dX10_flippedAt_146 ?_
                  refine r_goto (pc := 147) (tgt := 151) cx dX10_flippedAt_147 (by decide) ?_
                  cases hf
                  exact r_iret (pc := 151) cx rfl rfl dX10_flippedAt_151
            · have hf := ifn h22 hf
              by_cases h27 : a1 = (5 : Int32)
              · have hf := ifp h27 hf
                refine r_tin (pc := 7) (tgt := 129) cx (5 : Int32) h27 dX10_flippedAt_7 (by decide) (by decide) rfl (by decide) ?_
                refine r_iload_n (pc := 129) cx dX10_flippedAt_129 2 rfl ?_
                refine r_if_ne (pc := 130) (tgt := 150) cx dX10_flippedAt_130 (by decide) (fun h28 => ?_) (fun h28 => ?_)
                · have hf := ifn h28 hf
                  refine r_iconst (pc := 150) cx dX10_flippedAt_150 ic_m1 ?_
                  cases hf
                  exact r_iret (pc := 151) cx rfl rfl dX10_flippedAt_151
                · have hf := ifp h28 hf
                  refine r_iload_n (pc := 133) cx dX10_flippedAt_133 3 rfl ?_
                  refine r_bipush (pc := 134) cx dX10_flippedAt_134 bp_6 ?_
                  obtain ⟨r29, hc30, hf⟩ := bd_of hf
                  refine r_Si (pc := 136) (ws' := [((q 0), ob 9 [.int (M_thrown v), .ref (q 1), .int (M_taped (M_tp v)), .ref (q 2), .ref (q 3), .ref (q 4), .ref (q 5), .ref (q 6), .ref (q 7), .ref (q 8), .ref (q 9), .ref (q 10), .ref (q 11), .ref (q 12), .ref (q 13), .ref (q 14), .int (M_lines (M_rd v)), .int (M_size (M_rd v)), .int (M_at (M_rd v)), .int (M_place (M_rd v)), .int (M_sort (M_rd v)), .int (M_value (M_rd v)), .int (M_fault (M_rd v)), .int (M_faultPlace (M_rd v)), .int (M_lastFault (M_lf v)), .int (M_lastPlace (M_lf v)), .ref (q 15), .ref (q 16), .ref (q 17), .ref (q 18), .int (M_hasImage (M_im v)), .int (M_spanNow (M_rn v)), .ref (q 19), .int (M_placeThen (M_rn v)), .int (M_alonePlace (M_al v)), .int (M_aloneSteps (M_al v)), .int (M_aloneOut (M_al v)), .ref (q 20), .ref (q 21), .ref (q 22), .ref (q 23), .int (M_shotAlarm (M_ex v)), .int (M_drawn (M_ex v))]), ((q 1), aI K 700 (M_tape (M_tp v))), ((q 2), aI K 20 (M_number (M_cd v))), ((q 3), aZ K 5 (M_isTold (M_rd v))), ((q 4), aI K 80 (M_codeSort (M_cd v))), ((q 5), aI K 80 (M_codeA (M_cd v))), ((q 6), aI K 80 (M_codeB (M_cd v))), ((q 7), aI K 80 (M_codeC (M_cd v))), ((q 8), aI K 80 (M_codeName (M_cd v))), ((q 9), aI K 80 (M_codePlace (M_cd v))), ((q 10), aI K 80 (M_codeTo (M_cd v))), ((q 11), aI K 280 (M_labelName (M_cd v))), ((q 12), aI K 280 (M_labelAt (M_cd v))), ((q 13), aI K 64 (M_data (M_cd v))), ((q 14), aZ K 32 (M_hasData (M_rd v))), ((q 15), aI K 314 (M_s (M_rn v))), ((q 16), aI K 314 (M_aside (M_ex v))), ((q 17), aI K 314 (M_further (M_ex v))), ((q 18), aI K 314 (M_image (M_im v))), ((q 19), aI K 3 (M_sizeNow (M_rn v))), ((q 20), aI K 8 (M_aloneRegister (M_al v))), ((q 21), aI K 4 (M_aloneReal (M_al v))), ((q 22), aI K 32 (M_aloneMemory (M_al v))), ((q 23), aI K 999 (M_aloneOutput (M_al v)))]) cx [.int a3, .int (6 : Int32)] [] [] (m_M_isBit l D K a3 (6 : Int32) hc30) ys_X10_isBit wd_1707 ⟨rfl, rfl⟩ (by decide) rfl rfl rfl (by decide) rfl (Nat.le_of_ble_eq_true rfl) dX10_flippedAt_136 ?_
                  refine r_if_eq (pc := 139) (tgt := 150) cx dX10_flippedAt_139 (by decide) (fun h31 => ?_) (fun h31 => ?_)
                  · have hf := ifp h31 hf
                    refine r_iconst (pc := 150) cx dX10_flippedAt_150 ic_m1 ?_
                    cases hf
                    exact r_iret (pc := 151) cx rfl rfl dX10_flippedAt_151
                  · have hf := ifn h31 hf
                    refine r_iconst (pc := 142) cx dX10_flippedAt_142 ic_0 ?_
                    refine r_iload_n (pc := 143) cx dX10_flippedAt_143 1 rfl ?_
                    refine r_iadd (pc := 144) cx dX10_flippedAt_144 ?_
                    refine r_iconst (pc := 145) cx dX10_flippedAt_145 ic_4 ?_
                    refine r_isub (pc := 146) cx dX10_flippedAt_146 ?_
                    refine r_goto (pc := 147) (tgt := 151) cx dX10_flippedAt_147 (by decide) ?_
                    cases hf
                    exact r_iret (pc := 151) cx rfl rfl dX10_flippedAt_151
              · have hf := ifn h27 hf
                by_cases h32 : a1 = (6 : Int32)
                · have hf := ifp h32 hf
                  refine r_tin (pc := 7) (tgt := 152) cx (6 : Int32) h32 dX10_flippedAt_7 (by decide) (by decide) rfl (by decide) ?_
                  refine r_iload_n (pc := 152) cx dX10_flippedAt_152 2 rfl ?_
                  refine r_aload_n (pc := 153) cx dX10_flippedAt_153 0 rfl ?_
                  refine r_get (pc := 154) cx cf_X10 0 26 rfl (by decide) rfl wd_1342 dX10_flippedAt_154 ?_
                  refine r_bipush (pc := 157) cx dX10_flippedAt_157 bp_86 ?_
                  refine r_iald (pc := 159) cx 15 rfl (by decide) dX10_flippedAt_159 ?_
                  refine r_icmp_ge (pc := 160) (tgt := 178) cx dX10_flippedAt_160 (by decide) (fun h33 => ?_) (fun h33 => ?_)
                  · have hf := ifp h33 hf
                    refine r_iconst (pc := 178) cx dX10_flippedAt_178 ic_m1 ?_
                    cases hf
                    exact r_iret (pc := 179) cx rfl rfl dX10_flippedAt_179
                  · have hf := ifn h33 hf
                    refine r_iload_n (pc := 163) cx dX10_flippedAt_163 3 rfl ?_
                    refine r_iconst (pc := 164) cx dX10_flippedAt_164 ic_5 ?_
                    obtain ⟨r34, hc35, hf⟩ := bd_of hf
                    refine r_Si (pc := 165) (ws' := [((q 0), ob 9 [.int (M_thrown v), .ref (q 1), .int (M_taped (M_tp v)), .ref (q 2), .ref (q 3), .ref (q 4), .ref (q 5), .ref (q 6), .ref (q 7), .ref (q 8), .ref (q 9), .ref (q 10), .ref (q 11), .ref (q 12), .ref (q 13), .ref (q 14), .int (M_lines (M_rd v)), .int (M_size (M_rd v)), .int (M_at (M_rd v)), .int (M_place (M_rd v)), .int (M_sort (M_rd v)), .int (M_value (M_rd v)), .int (M_fault (M_rd v)), .int (M_faultPlace (M_rd v)), .int (M_lastFault (M_lf v)), .int (M_lastPlace (M_lf v)), .ref (q 15), .ref (q 16), .ref (q 17), .ref (q 18), .int (M_hasImage (M_im v)), .int (M_spanNow (M_rn v)), .ref (q 19), .int (M_placeThen (M_rn v)), .int (M_alonePlace (M_al v)), .int (M_aloneSteps (M_al v)), .int (M_aloneOut (M_al v)), .ref (q 20), .ref (q 21), .ref (q 22), .ref (q 23), .int (M_shotAlarm (M_ex v)), .int (M_drawn (M_ex v))]), ((q 1), aI K 700 (M_tape (M_tp v))), ((q 2), aI K 20 (M_number (M_cd v))), ((q 3), aZ K 5 (M_isTold (M_rd v))), ((q 4), aI K 80 (M_codeSort (M_cd v))), ((q 5), aI K 80 (M_codeA (M_cd v))), ((q 6), aI K 80 (M_codeB (M_cd v))), ((q 7), aI K 80 (M_codeC (M_cd v))), ((q 8), aI K 80 (M_codeName (M_cd v))), ((q 9), aI K 80 (M_codePlace (M_cd v))), ((q 10), aI K 80 (M_codeTo (M_cd v))), ((q 11), aI K 280 (M_labelName (M_cd v))), ((q 12), aI K 280 (M_labelAt (M_cd v))), ((q 13), aI K 64 (M_data (M_cd v))), ((q 14), aZ K 32 (M_hasData (M_rd v))), ((q 15), aI K 314 (M_s (M_rn v))), ((q 16), aI K 314 (M_aside (M_ex v))), ((q 17), aI K 314 (M_further (M_ex v))), ((q 18), aI K 314 (M_image (M_im v))), ((q 19), aI K 3 (M_sizeNow (M_rn v))), ((q 20), aI K 8 (M_aloneRegister (M_al v))), ((q 21), aI K 4 (M_aloneReal (M_al v))), ((q 22), aI K 32 (M_aloneMemory (M_al v))), ((q 23), aI K 999 (M_aloneOutput (M_al v)))]) cx [.int a3, .int (5 : Int32)] [] [] (m_M_isBit l D K a3 (5 : Int32) hc35) ys_X10_isBit wd_1707 ⟨rfl, rfl⟩ (by decide) rfl rfl rfl (by decide) rfl (Nat.le_of_ble_eq_true rfl) dX10_flippedAt_165 ?_
                    refine r_if_eq (pc := 168) (tgt := 178) cx dX10_flippedAt_168 (by decide) (fun h36 => ?_) (fun h36 => ?_)
                    · have hf := ifp h36 hf
                      refine r_iconst (pc := 178) cx dX10_flippedAt_178 ic_m1 ?_
                      cases hf
                      exact r_iret (pc := 179) cx rfl rfl dX10_flippedAt_179
                    · have hf := ifn h36 hf
                      refine r_bipush (pc := 171) cx dX10_flippedAt_171 bp_87 ?_
                      refine r_iload_n (pc := 173) cx dX10_flippedAt_173 2 rfl ?_
                      refine r_iadd (pc := 174) cx dX10_flippedAt_174 ?_
                      refine r_goto (pc := 175) (tgt := 179) cx dX10_flippedAt_175 (by decide) ?_
                      cases hf
                      exact r_iret (pc := 179) cx rfl rfl dX10_flippedAt_179
                · have hf := ifn h32 hf
                  by_cases h37 : a1 = (7 : Int32)
                  · have hf := ifp h37 hf
                    refine r_tin (pc := 7) (tgt := 180) cx (7 : Int32) h37 dX10_flippedAt_7 (by decide) (by decide) rfl (by decide) ?_
                    refine r_iload_n (pc := 180) cx dX10_flippedAt_180 2 rfl ?_
                    refine r_aload_n (pc := 181) cx dX10_flippedAt_181 0 rfl ?_
                    refine r_get (pc := 182) cx cf_X10 0 26 rfl (by decide) rfl wd_1342 dX10_flippedAt_182 ?_
                    refine r_bipush (pc := 185) cx dX10_flippedAt_185 bp_86 ?_
                    refine r_iald (pc := 187) cx 15 rfl (by decide) dX10_flippedAt_187 ?_
                    refine r_icmp_ge (pc := 188) (tgt := 207) cx dX10_flippedAt_188 (by decide) (fun h38 => ?_) (fun h38 => ?_)
                    · have hf := ifp h38 hf
                      refine r_iconst (pc := 207) cx dX10_flippedAt_207 ic_m1 ?_
                      cases hf
                      exact r_iret (pc := 208) cx rfl rfl dX10_flippedAt_208
                    · have hf := ifn h38 hf
                      refine r_iload_n (pc := 191) cx dX10_flippedAt_191 3 rfl ?_
                      refine r_bipush (pc := 192) cx dX10_flippedAt_192 bp_32 ?_
                      obtain ⟨r39, hc40, hf⟩ := bd_of hf
                      refine r_Si (pc := 194) (ws' := [((q 0), ob 9 [.int (M_thrown v), .ref (q 1), .int (M_taped (M_tp v)), .ref (q 2), .ref (q 3), .ref (q 4), .ref (q 5), .ref (q 6), .ref (q 7), .ref (q 8), .ref (q 9), .ref (q 10), .ref (q 11), .ref (q 12), .ref (q 13), .ref (q 14), .int (M_lines (M_rd v)), .int (M_size (M_rd v)), .int (M_at (M_rd v)), .int (M_place (M_rd v)), .int (M_sort (M_rd v)), .int (M_value (M_rd v)), .int (M_fault (M_rd v)), .int (M_faultPlace (M_rd v)), .int (M_lastFault (M_lf v)), .int (M_lastPlace (M_lf v)), .ref (q 15), .ref (q 16), .ref (q 17), .ref (q 18), .int (M_hasImage (M_im v)), .int (M_spanNow (M_rn v)), .ref (q 19), .int (M_placeThen (M_rn v)), .int (M_alonePlace (M_al v)), .int (M_aloneSteps (M_al v)), .int (M_aloneOut (M_al v)), .ref (q 20), .ref (q 21), .ref (q 22), .ref (q 23), .int (M_shotAlarm (M_ex v)), .int (M_drawn (M_ex v))]), ((q 1), aI K 700 (M_tape (M_tp v))), ((q 2), aI K 20 (M_number (M_cd v))), ((q 3), aZ K 5 (M_isTold (M_rd v))), ((q 4), aI K 80 (M_codeSort (M_cd v))), ((q 5), aI K 80 (M_codeA (M_cd v))), ((q 6), aI K 80 (M_codeB (M_cd v))), ((q 7), aI K 80 (M_codeC (M_cd v))), ((q 8), aI K 80 (M_codeName (M_cd v))), ((q 9), aI K 80 (M_codePlace (M_cd v))), ((q 10), aI K 80 (M_codeTo (M_cd v))), ((q 11), aI K 280 (M_labelName (M_cd v))), ((q 12), aI K 280 (M_labelAt (M_cd v))), ((q 13), aI K 64 (M_data (M_cd v))), ((q 14), aZ K 32 (M_hasData (M_rd v))), ((q 15), aI K 314 (M_s (M_rn v))), ((q 16), aI K 314 (M_aside (M_ex v))), ((q 17), aI K 314 (M_further (M_ex v))), ((q 18), aI K 314 (M_image (M_im v))), ((q 19), aI K 3 (M_sizeNow (M_rn v))), ((q 20), aI K 8 (M_aloneRegister (M_al v))), ((q 21), aI K 4 (M_aloneReal (M_al v))), ((q 22), aI K 32 (M_aloneMemory (M_al v))), ((q 23), aI K 999 (M_aloneOutput (M_al v)))]) cx [.int a3, .int (32 : Int32)] [] [] (m_M_isBit l D K a3 (32 : Int32) hc40) ys_X10_isBit wd_1707 ⟨rfl, rfl⟩ (by decide) rfl rfl rfl (by decide) rfl (Nat.le_of_ble_eq_true rfl) dX10_flippedAt_194 ?_
                      refine r_if_eq (pc := 197) (tgt := 207) cx dX10_flippedAt_197 (by decide) (fun h41 => ?_) (fun h41 => ?_)
                      · have hf := ifp h41 hf
                        refine r_iconst (pc := 207) cx dX10_flippedAt_207 ic_m1 ?_
                        cases hf
                        exact r_iret (pc := 208) cx rfl rfl dX10_flippedAt_208
                      · have hf := ifn h41 hf
                        refine r_bipush (pc := 200) cx dX10_flippedAt_200 bp_95 ?_
                        refine r_iload_n (pc := 202) cx dX10_flippedAt_202 2 rfl ?_
                        refine r_iadd (pc := 203) cx dX10_flippedAt_203 ?_
                        refine r_goto (pc := 204) (tgt := 208) cx dX10_flippedAt_204 (by decide) ?_
                        cases hf
                        exact r_iret (pc := 208) cx rfl rfl dX10_flippedAt_208
                  · have hf := ifn h37 hf
                    by_cases h42 : a1 = (8 : Int32)
                    · have hf := ifp h42 hf
                      refine r_tin (pc := 7) (tgt := 209) cx (8 : Int32) h42 dX10_flippedAt_7 (by decide) (by decide) rfl (by decide) ?_
                      refine r_iload_n (pc := 209) cx dX10_flippedAt_209 2 rfl ?_
                      refine r_aload_n (pc := 210) cx dX10_flippedAt_210 0 rfl ?_
                      refine r_get (pc := 211) cx cf_X10 0 26 rfl (by decide) rfl wd_1342 dX10_flippedAt_211 ?_
                      refine r_bipush (pc := 214) cx dX10_flippedAt_214 bp_103 ?_
                      refine r_iald (pc := 216) cx 15 rfl (by decide) dX10_flippedAt_216 ?_
                      refine r_icmp_ge (pc := 217) (tgt := 235) cx dX10_flippedAt_217 (by decide) (fun h43 => ?_) (fun h43 => ?_)
                      · have hf := ifp h43 hf
                        refine r_iconst (pc := 235) cx dX10_flippedAt_235 ic_m1 ?_
                        cases hf
                        exact r_iret (pc := 236) cx rfl rfl dX10_flippedAt_236
                      · have hf := ifn h43 hf
                        refine r_iload_n (pc := 220) cx dX10_flippedAt_220 3 rfl ?_
                        refine r_iconst (pc := 221) cx dX10_flippedAt_221 ic_1 ?_
                        obtain ⟨r44, hc45, hf⟩ := bd_of hf
                        refine r_Si (pc := 222) (ws' := [((q 0), ob 9 [.int (M_thrown v), .ref (q 1), .int (M_taped (M_tp v)), .ref (q 2), .ref (q 3), .ref (q 4), .ref (q 5), .ref (q 6), .ref (q 7), .ref (q 8), .ref (q 9), .ref (q 10), .ref (q 11), .ref (q 12), .ref (q 13), .ref (q 14), .int (M_lines (M_rd v)), .int (M_size (M_rd v)), .int (M_at (M_rd v)), .int (M_place (M_rd v)), .int (M_sort (M_rd v)), .int (M_value (M_rd v)), .int (M_fault (M_rd v)), .int (M_faultPlace (M_rd v)), .int (M_lastFault (M_lf v)), .int (M_lastPlace (M_lf v)), .ref (q 15), .ref (q 16), .ref (q 17), .ref (q 18), .int (M_hasImage (M_im v)), .int (M_spanNow (M_rn v)), .ref (q 19), .int (M_placeThen (M_rn v)), .int (M_alonePlace (M_al v)), .int (M_aloneSteps (M_al v)), .int (M_aloneOut (M_al v)), .ref (q 20), .ref (q 21), .ref (q 22), .ref (q 23), .int (M_shotAlarm (M_ex v)), .int (M_drawn (M_ex v))]), ((q 1), aI K 700 (M_tape (M_tp v))), ((q 2), aI K 20 (M_number (M_cd v))), ((q 3), aZ K 5 (M_isTold (M_rd v))), ((q 4), aI K 80 (M_codeSort (M_cd v))), ((q 5), aI K 80 (M_codeA (M_cd v))), ((q 6), aI K 80 (M_codeB (M_cd v))), ((q 7), aI K 80 (M_codeC (M_cd v))), ((q 8), aI K 80 (M_codeName (M_cd v))), ((q 9), aI K 80 (M_codePlace (M_cd v))), ((q 10), aI K 80 (M_codeTo (M_cd v))), ((q 11), aI K 280 (M_labelName (M_cd v))), ((q 12), aI K 280 (M_labelAt (M_cd v))), ((q 13), aI K 64 (M_data (M_cd v))), ((q 14), aZ K 32 (M_hasData (M_rd v))), ((q 15), aI K 314 (M_s (M_rn v))), ((q 16), aI K 314 (M_aside (M_ex v))), ((q 17), aI K 314 (M_further (M_ex v))), ((q 18), aI K 314 (M_image (M_im v))), ((q 19), aI K 3 (M_sizeNow (M_rn v))), ((q 20), aI K 8 (M_aloneRegister (M_al v))), ((q 21), aI K 4 (M_aloneReal (M_al v))), ((q 22), aI K 32 (M_aloneMemory (M_al v))), ((q 23), aI K 999 (M_aloneOutput (M_al v)))]) cx [.int a3, .int (1 : Int32)] [] [] (m_M_isBit l D K a3 (1 : Int32) hc45) ys_X10_isBit wd_1707 ⟨rfl, rfl⟩ (by decide) rfl rfl rfl (by decide) rfl (Nat.le_of_ble_eq_true rfl) dX10_flippedAt_222 ?_
                        refine r_if_eq (pc := 225) (tgt := 235) cx dX10_flippedAt_225 (by decide) (fun h46 => ?_) (fun h46 => ?_)
                        · have hf := ifp h46 hf
                          refine r_iconst (pc := 235) cx dX10_flippedAt_235 ic_m1 ?_
                          cases hf
                          exact r_iret (pc := 236) cx rfl rfl dX10_flippedAt_236
                        · have hf := ifn h46 hf
                          refine r_bipush (pc := 228) cx dX10_flippedAt_228 bp_104 ?_
                          refine r_iload_n (pc := 230) cx dX10_flippedAt_230 2 rfl ?_
                          refine r_iadd (pc := 231) cx dX10_flippedAt_231 ?_
                          refine r_goto (pc := 232) (tgt := 236) cx dX10_flippedAt_232 (by decide) ?_
                          cases hf
                          exact r_iret (pc := 236) cx rfl rfl dX10_flippedAt_236
                    · have hf := ifn h42 hf
                      by_cases h47 : a1 = (9 : Int32)
                      · have hf := ifp h47 hf
                        refine r_tin (pc := 7) (tgt := 237) cx (9 : Int32) h47 dX10_flippedAt_7 (by decide) (by decide) rfl (by decide) ?_
                        refine r_iload_n (pc := 237) cx dX10_flippedAt_237 2 rfl ?_
                        refine r_aload_n (pc := 238) cx dX10_flippedAt_238 0 rfl ?_
                        refine r_get (pc := 239) cx cf_X10 0 26 rfl (by decide) rfl wd_1342 dX10_flippedAt_239 ?_
                        refine r_bipush (pc := 242) cx dX10_flippedAt_242 bp_112 ?_
                        refine r_iald (pc := 244) cx 15 rfl (by decide) dX10_flippedAt_244 ?_
                        refine r_icmp_ge (pc := 245) (tgt := 264) cx dX10_flippedAt_245 (by decide) (fun h48 => ?_) (fun h48 => ?_)
                        · have hf := ifp h48 hf
                          refine r_iconst (pc := 264) cx dX10_flippedAt_264 ic_m1 ?_
                          cases hf
                          exact r_iret (pc := 265) cx rfl rfl dX10_flippedAt_265
                        · have hf := ifn h48 hf
                          refine r_iload_n (pc := 248) cx dX10_flippedAt_248 3 rfl ?_
                          refine r_bipush (pc := 249) cx dX10_flippedAt_249 bp_6 ?_
                          obtain ⟨r49, hc50, hf⟩ := bd_of hf
                          refine r_Si (pc := 251) (ws' := [((q 0), ob 9 [.int (M_thrown v), .ref (q 1), .int (M_taped (M_tp v)), .ref (q 2), .ref (q 3), .ref (q 4), .ref (q 5), .ref (q 6), .ref (q 7), .ref (q 8), .ref (q 9), .ref (q 10), .ref (q 11), .ref (q 12), .ref (q 13), .ref (q 14), .int (M_lines (M_rd v)), .int (M_size (M_rd v)), .int (M_at (M_rd v)), .int (M_place (M_rd v)), .int (M_sort (M_rd v)), .int (M_value (M_rd v)), .int (M_fault (M_rd v)), .int (M_faultPlace (M_rd v)), .int (M_lastFault (M_lf v)), .int (M_lastPlace (M_lf v)), .ref (q 15), .ref (q 16), .ref (q 17), .ref (q 18), .int (M_hasImage (M_im v)), .int (M_spanNow (M_rn v)), .ref (q 19), .int (M_placeThen (M_rn v)), .int (M_alonePlace (M_al v)), .int (M_aloneSteps (M_al v)), .int (M_aloneOut (M_al v)), .ref (q 20), .ref (q 21), .ref (q 22), .ref (q 23), .int (M_shotAlarm (M_ex v)), .int (M_drawn (M_ex v))]), ((q 1), aI K 700 (M_tape (M_tp v))), ((q 2), aI K 20 (M_number (M_cd v))), ((q 3), aZ K 5 (M_isTold (M_rd v))), ((q 4), aI K 80 (M_codeSort (M_cd v))), ((q 5), aI K 80 (M_codeA (M_cd v))), ((q 6), aI K 80 (M_codeB (M_cd v))), ((q 7), aI K 80 (M_codeC (M_cd v))), ((q 8), aI K 80 (M_codeName (M_cd v))), ((q 9), aI K 80 (M_codePlace (M_cd v))), ((q 10), aI K 80 (M_codeTo (M_cd v))), ((q 11), aI K 280 (M_labelName (M_cd v))), ((q 12), aI K 280 (M_labelAt (M_cd v))), ((q 13), aI K 64 (M_data (M_cd v))), ((q 14), aZ K 32 (M_hasData (M_rd v))), ((q 15), aI K 314 (M_s (M_rn v))), ((q 16), aI K 314 (M_aside (M_ex v))), ((q 17), aI K 314 (M_further (M_ex v))), ((q 18), aI K 314 (M_image (M_im v))), ((q 19), aI K 3 (M_sizeNow (M_rn v))), ((q 20), aI K 8 (M_aloneRegister (M_al v))), ((q 21), aI K 4 (M_aloneReal (M_al v))), ((q 22), aI K 32 (M_aloneMemory (M_al v))), ((q 23), aI K 999 (M_aloneOutput (M_al v)))]) cx [.int a3, .int (6 : Int32)] [] [] (m_M_isBit l D K a3 (6 : Int32) hc50) ys_X10_isBit wd_1707 ⟨rfl, rfl⟩ (by decide) rfl rfl rfl (by decide) rfl (Nat.le_of_ble_eq_true rfl) dX10_flippedAt_251 ?_
                          refine r_if_eq (pc := 254) (tgt := 264) cx dX10_flippedAt_254 (by decide) (fun h51 => ?_) (fun h51 => ?_)
                          · have hf := ifp h51 hf
                            refine r_iconst (pc := 264) cx dX10_flippedAt_264 ic_m1 ?_
                            cases hf
                            exact r_iret (pc := 265) cx rfl rfl dX10_flippedAt_265
                          · have hf := ifn h51 hf
                            refine r_bipush (pc := 257) cx dX10_flippedAt_257 bp_114 ?_
                            refine r_iload_n (pc := 259) cx dX10_flippedAt_259 2 rfl ?_
                            refine r_iadd (pc := 260) cx dX10_flippedAt_260 ?_
                            refine r_goto (pc := 261) (tgt := 265) cx dX10_flippedAt_261 (by decide) ?_
                            cases hf
                            exact r_iret (pc := 265) cx rfl rfl dX10_flippedAt_265
                      · have hf := ifn h47 hf
                        by_cases h52 : a1 = (10 : Int32)
                        · have hf := ifp h52 hf
                          refine r_tin (pc := 7) (tgt := 266) cx (10 : Int32) h52 dX10_flippedAt_7 (by decide) (by decide) rfl (by decide) ?_
                          refine r_iload_n (pc := 266) cx dX10_flippedAt_266 2 rfl ?_
                          refine r_aload_n (pc := 267) cx dX10_flippedAt_267 0 rfl ?_
                          refine r_get (pc := 268) cx cf_X10 0 26 rfl (by decide) rfl wd_1342 dX10_flippedAt_268 ?_
                          refine r_bipush (pc := 271) cx dX10_flippedAt_271 bp_112 ?_
                          refine r_iald (pc := 273) cx 15 rfl (by decide) dX10_flippedAt_273 ?_
                          refine r_icmp_ge (pc := 274) (tgt := 293) cx dX10_flippedAt_274 (by decide) (fun h53 => ?_) (fun h53 => ?_)
                          · have hf := ifp h53 hf
                            refine r_iconst (pc := 293) cx dX10_flippedAt_293 ic_m1 ?_
                            cases hf
                            exact r_iret (pc := 294) cx rfl rfl dX10_flippedAt_294
                          · have hf := ifn h53 hf
                            refine r_iload_n (pc := 277) cx dX10_flippedAt_277 3 rfl ?_
                            refine r_bipush (pc := 278) cx dX10_flippedAt_278 bp_32 ?_
                            obtain ⟨r54, hc55, hf⟩ := bd_of hf
                            refine r_Si (pc := 280) (ws' := [((q 0), ob 9 [.int (M_thrown v), .ref (q 1), .int (M_taped (M_tp v)), .ref (q 2), .ref (q 3), .ref (q 4), .ref (q 5), .ref (q 6), .ref (q 7), .ref (q 8), .ref (q 9), .ref (q 10), .ref (q 11), .ref (q 12), .ref (q 13), .ref (q 14), .int (M_lines (M_rd v)), .int (M_size (M_rd v)), .int (M_at (M_rd v)), .int (M_place (M_rd v)), .int (M_sort (M_rd v)), .int (M_value (M_rd v)), .int (M_fault (M_rd v)), .int (M_faultPlace (M_rd v)), .int (M_lastFault (M_lf v)), .int (M_lastPlace (M_lf v)), .ref (q 15), .ref (q 16), .ref (q 17), .ref (q 18), .int (M_hasImage (M_im v)), .int (M_spanNow (M_rn v)), .ref (q 19), .int (M_placeThen (M_rn v)), .int (M_alonePlace (M_al v)), .int (M_aloneSteps (M_al v)), .int (M_aloneOut (M_al v)), .ref (q 20), .ref (q 21), .ref (q 22), .ref (q 23), .int (M_shotAlarm (M_ex v)), .int (M_drawn (M_ex v))]), ((q 1), aI K 700 (M_tape (M_tp v))), ((q 2), aI K 20 (M_number (M_cd v))), ((q 3), aZ K 5 (M_isTold (M_rd v))), ((q 4), aI K 80 (M_codeSort (M_cd v))), ((q 5), aI K 80 (M_codeA (M_cd v))), ((q 6), aI K 80 (M_codeB (M_cd v))), ((q 7), aI K 80 (M_codeC (M_cd v))), ((q 8), aI K 80 (M_codeName (M_cd v))), ((q 9), aI K 80 (M_codePlace (M_cd v))), ((q 10), aI K 80 (M_codeTo (M_cd v))), ((q 11), aI K 280 (M_labelName (M_cd v))), ((q 12), aI K 280 (M_labelAt (M_cd v))), ((q 13), aI K 64 (M_data (M_cd v))), ((q 14), aZ K 32 (M_hasData (M_rd v))), ((q 15), aI K 314 (M_s (M_rn v))), ((q 16), aI K 314 (M_aside (M_ex v))), ((q 17), aI K 314 (M_further (M_ex v))), ((q 18), aI K 314 (M_image (M_im v))), ((q 19), aI K 3 (M_sizeNow (M_rn v))), ((q 20), aI K 8 (M_aloneRegister (M_al v))), ((q 21), aI K 4 (M_aloneReal (M_al v))), ((q 22), aI K 32 (M_aloneMemory (M_al v))), ((q 23), aI K 999 (M_aloneOutput (M_al v)))]) cx [.int a3, .int (32 : Int32)] [] [] (m_M_isBit l D K a3 (32 : Int32) hc55) ys_X10_isBit wd_1707 ⟨rfl, rfl⟩ (by decide) rfl rfl rfl (by decide) rfl (Nat.le_of_ble_eq_true rfl) dX10_flippedAt_280 ?_
                            refine r_if_eq (pc := 283) (tgt := 293) cx dX10_flippedAt_283 (by decide) (fun h56 => ?_) (fun h56 => ?_)
                            · have hf := ifp h56 hf
                              refine r_iconst (pc := 293) cx dX10_flippedAt_293 ic_m1 ?_
                              cases hf
                              exact r_iret (pc := 294) cx rfl rfl dX10_flippedAt_294
                            · have hf := ifn h56 hf
                              refine r_bipush (pc := 286) cx dX10_flippedAt_286 bp_122 ?_
                              refine r_iload_n (pc := 288) cx dX10_flippedAt_288 2 rfl ?_
                              refine r_iadd (pc := 289) cx dX10_flippedAt_289 ?_
                              refine r_goto (pc := 290) (tgt := 294) cx dX10_flippedAt_290 (by decide) ?_
                              cases hf
                              exact r_iret (pc := 294) cx rfl rfl dX10_flippedAt_294
                        · have hf := ifn h52 hf
                          by_cases h57 : a1 = (11 : Int32)
                          · have hf := ifp h57 hf
                            refine r_tin (pc := 7) (tgt := 295) cx (11 : Int32) h57 dX10_flippedAt_7 (by decide) (by decide) rfl (by decide) ?_
                            refine r_iload_n (pc := 295) cx dX10_flippedAt_295 2 rfl ?_
                            refine r_aload_n (pc := 296) cx dX10_flippedAt_296 0 rfl ?_
                            refine r_get (pc := 297) cx cf_X10 0 26 rfl (by decide) rfl wd_1342 dX10_flippedAt_297 ?_
                            refine r_bipush (pc := 300) cx dX10_flippedAt_300 bp_113 ?_
                            refine r_iald (pc := 302) cx 15 rfl (by decide) dX10_flippedAt_302 ?_
                            refine r_icmp_ge (pc := 303) (tgt := 323) cx dX10_flippedAt_303 (by decide) (fun h58 => ?_) (fun h58 => ?_)
                            · have hf := ifp h58 hf
                              refine r_iconst (pc := 323) cx dX10_flippedAt_323 ic_m1 ?_
                              cases hf
                              exact r_iret (pc := 324) cx rfl rfl dX10_flippedAt_324
                            · have hf := ifn h58 hf
                              refine r_iload_n (pc := 306) cx dX10_flippedAt_306 3 rfl ?_
                              refine r_bipush (pc := 307) cx dX10_flippedAt_307 bp_6 ?_
                              obtain ⟨r59, hc60, hf⟩ := bd_of hf
                              refine r_Si (pc := 309) (ws' := [((q 0), ob 9 [.int (M_thrown v), .ref (q 1), .int (M_taped (M_tp v)), .ref (q 2), .ref (q 3), .ref (q 4), .ref (q 5), .ref (q 6), .ref (q 7), .ref (q 8), .ref (q 9), .ref (q 10), .ref (q 11), .ref (q 12), .ref (q 13), .ref (q 14), .int (M_lines (M_rd v)), .int (M_size (M_rd v)), .int (M_at (M_rd v)), .int (M_place (M_rd v)), .int (M_sort (M_rd v)), .int (M_value (M_rd v)), .int (M_fault (M_rd v)), .int (M_faultPlace (M_rd v)), .int (M_lastFault (M_lf v)), .int (M_lastPlace (M_lf v)), .ref (q 15), .ref (q 16), .ref (q 17), .ref (q 18), .int (M_hasImage (M_im v)), .int (M_spanNow (M_rn v)), .ref (q 19), .int (M_placeThen (M_rn v)), .int (M_alonePlace (M_al v)), .int (M_aloneSteps (M_al v)), .int (M_aloneOut (M_al v)), .ref (q 20), .ref (q 21), .ref (q 22), .ref (q 23), .int (M_shotAlarm (M_ex v)), .int (M_drawn (M_ex v))]), ((q 1), aI K 700 (M_tape (M_tp v))), ((q 2), aI K 20 (M_number (M_cd v))), ((q 3), aZ K 5 (M_isTold (M_rd v))), ((q 4), aI K 80 (M_codeSort (M_cd v))), ((q 5), aI K 80 (M_codeA (M_cd v))), ((q 6), aI K 80 (M_codeB (M_cd v))), ((q 7), aI K 80 (M_codeC (M_cd v))), ((q 8), aI K 80 (M_codeName (M_cd v))), ((q 9), aI K 80 (M_codePlace (M_cd v))), ((q 10), aI K 80 (M_codeTo (M_cd v))), ((q 11), aI K 280 (M_labelName (M_cd v))), ((q 12), aI K 280 (M_labelAt (M_cd v))), ((q 13), aI K 64 (M_data (M_cd v))), ((q 14), aZ K 32 (M_hasData (M_rd v))), ((q 15), aI K 314 (M_s (M_rn v))), ((q 16), aI K 314 (M_aside (M_ex v))), ((q 17), aI K 314 (M_further (M_ex v))), ((q 18), aI K 314 (M_image (M_im v))), ((q 19), aI K 3 (M_sizeNow (M_rn v))), ((q 20), aI K 8 (M_aloneRegister (M_al v))), ((q 21), aI K 4 (M_aloneReal (M_al v))), ((q 22), aI K 32 (M_aloneMemory (M_al v))), ((q 23), aI K 999 (M_aloneOutput (M_al v)))]) cx [.int a3, .int (6 : Int32)] [] [] (m_M_isBit l D K a3 (6 : Int32) hc60) ys_X10_isBit wd_1707 ⟨rfl, rfl⟩ (by decide) rfl rfl rfl (by decide) rfl (Nat.le_of_ble_eq_true rfl) dX10_flippedAt_309 ?_
                              refine r_if_eq (pc := 312) (tgt := 323) cx dX10_flippedAt_312 (by decide) (fun h61 => ?_) (fun h61 => ?_)
                              · have hf := ifp h61 hf
                                refine r_iconst (pc := 323) cx dX10_flippedAt_323 ic_m1 ?_
                                cases hf
                                exact r_iret (pc := 324) cx rfl rfl dX10_flippedAt_324
                              · have hf := ifn h61 hf
                                refine r_sipush (pc := 315) cx dX10_flippedAt_315 sp_130 ?_
                                refine r_iload_n (pc := 318) cx dX10_flippedAt_318 2 rfl ?_
                                refine r_iadd (pc := 319) cx dX10_flippedAt_319 ?_
                                refine r_goto (pc := 320) (tgt := 324) cx dX10_flippedAt_320 (by decide) ?_
                                cases hf
                                exact r_iret (pc := 324) cx rfl rfl dX10_flippedAt_324
                          · have hf := ifn h57 hf
                            by_cases h62 : a1 = (12 : Int32)
                            · have hf := ifp h62 hf
                              refine r_tin (pc := 7) (tgt := 325) cx (12 : Int32) h62 dX10_flippedAt_7 (by decide) (by decide) rfl (by decide) ?_
                              refine r_iload_n (pc := 325) cx dX10_flippedAt_325 2 rfl ?_
                              refine r_aload_n (pc := 326) cx dX10_flippedAt_326 0 rfl ?_
                              refine r_get (pc := 327) cx cf_X10 0 26 rfl (by decide) rfl wd_1342 dX10_flippedAt_327 ?_
                              refine r_bipush (pc := 330) cx dX10_flippedAt_330 bp_113 ?_
                              refine r_iald (pc := 332) cx 15 rfl (by decide) dX10_flippedAt_332 ?_
                              refine r_icmp_ge (pc := 333) (tgt := 353) cx dX10_flippedAt_333 (by decide) (fun h63 => ?_) (fun h63 => ?_)
                              · have hf := ifp h63 hf
                                refine r_iconst (pc := 353) cx dX10_flippedAt_353 ic_m1 ?_
                                cases hf
                                exact r_iret (pc := 354) cx rfl rfl dX10_flippedAt_354
                              · have hf := ifn h63 hf
                                refine r_iload_n (pc := 336) cx dX10_flippedAt_336 3 rfl ?_
                                refine r_bipush (pc := 337) cx dX10_flippedAt_337 bp_32 ?_
                                obtain ⟨r64, hc65, hf⟩ := bd_of hf
                                refine r_Si (pc := 339) (ws' := [((q 0), ob 9 [.int (M_thrown v), .ref (q 1), .int (M_taped (M_tp v)), .ref (q 2), .ref (q 3), .ref (q 4), .ref (q 5), .ref (q 6), .ref (q 7), .ref (q 8), .ref (q 9), .ref (q 10), .ref (q 11), .ref (q 12), .ref (q 13), .ref (q 14), .int (M_lines (M_rd v)), .int (M_size (M_rd v)), .int (M_at (M_rd v)), .int (M_place (M_rd v)), .int (M_sort (M_rd v)), .int (M_value (M_rd v)), .int (M_fault (M_rd v)), .int (M_faultPlace (M_rd v)), .int (M_lastFault (M_lf v)), .int (M_lastPlace (M_lf v)), .ref (q 15), .ref (q 16), .ref (q 17), .ref (q 18), .int (M_hasImage (M_im v)), .int (M_spanNow (M_rn v)), .ref (q 19), .int (M_placeThen (M_rn v)), .int (M_alonePlace (M_al v)), .int (M_aloneSteps (M_al v)), .int (M_aloneOut (M_al v)), .ref (q 20), .ref (q 21), .ref (q 22), .ref (q 23), .int (M_shotAlarm (M_ex v)), .int (M_drawn (M_ex v))]), ((q 1), aI K 700 (M_tape (M_tp v))), ((q 2), aI K 20 (M_number (M_cd v))), ((q 3), aZ K 5 (M_isTold (M_rd v))), ((q 4), aI K 80 (M_codeSort (M_cd v))), ((q 5), aI K 80 (M_codeA (M_cd v))), ((q 6), aI K 80 (M_codeB (M_cd v))), ((q 7), aI K 80 (M_codeC (M_cd v))), ((q 8), aI K 80 (M_codeName (M_cd v))), ((q 9), aI K 80 (M_codePlace (M_cd v))), ((q 10), aI K 80 (M_codeTo (M_cd v))), ((q 11), aI K 280 (M_labelName (M_cd v))), ((q 12), aI K 280 (M_labelAt (M_cd v))), ((q 13), aI K 64 (M_data (M_cd v))), ((q 14), aZ K 32 (M_hasData (M_rd v))), ((q 15), aI K 314 (M_s (M_rn v))), ((q 16), aI K 314 (M_aside (M_ex v))), ((q 17), aI K 314 (M_further (M_ex v))), ((q 18), aI K 314 (M_image (M_im v))), ((q 19), aI K 3 (M_sizeNow (M_rn v))), ((q 20), aI K 8 (M_aloneRegister (M_al v))), ((q 21), aI K 4 (M_aloneReal (M_al v))), ((q 22), aI K 32 (M_aloneMemory (M_al v))), ((q 23), aI K 999 (M_aloneOutput (M_al v)))]) cx [.int a3, .int (32 : Int32)] [] [] (m_M_isBit l D K a3 (32 : Int32) hc65) ys_X10_isBit wd_1707 ⟨rfl, rfl⟩ (by decide) rfl rfl rfl (by decide) rfl (Nat.le_of_ble_eq_true rfl) dX10_flippedAt_339 ?_
                                refine r_if_eq (pc := 342) (tgt := 353) cx dX10_flippedAt_342 (by decide) (fun h66 => ?_) (fun h66 => ?_)
                                · have hf := ifp h66 hf
                                  refine r_iconst (pc := 353) cx dX10_flippedAt_353 ic_m1 ?_
                                  cases hf
                                  exact r_iret (pc := 354) cx rfl rfl dX10_flippedAt_354
                                · have hf := ifn h66 hf
                                  refine r_sipush (pc := 345) cx dX10_flippedAt_345 sp_138 ?_
                                  refine r_iload_n (pc := 348) cx dX10_flippedAt_348 2 rfl ?_
                                  refine r_iadd (pc := 349) cx dX10_flippedAt_349 ?_
                                  refine r_goto (pc := 350) (tgt := 354) cx dX10_flippedAt_350 (by decide) ?_
                                  cases hf
                                  exact r_iret (pc := 354) cx rfl rfl dX10_flippedAt_354
                            · have hf := ifn h62 hf
                              refine r_tout (pc := 7) (tgt := 355) cx dX10_flippedAt_7 (by
                                have nh2 := toInt_ne h2
                                have mh2 : (0 : Int32).toInt = 0 := by decide
                                rw [mh2] at nh2
                                have nh7 := toInt_ne h7
                                have mh7 : (1 : Int32).toInt = 1 := by decide
                                rw [mh7] at nh7
                                have nh12 := toInt_ne h12
                                have mh12 : (2 : Int32).toInt = 2 := by decide
                                rw [mh12] at nh12
                                have nh17 := toInt_ne h17
                                have mh17 : (3 : Int32).toInt = 3 := by decide
                                rw [mh17] at nh17
                                have nh22 := toInt_ne h22
                                have mh22 : (4 : Int32).toInt = 4 := by decide
                                rw [mh22] at nh22
                                have nh27 := toInt_ne h27
                                have mh27 : (5 : Int32).toInt = 5 := by decide
                                rw [mh27] at nh27
                                have nh32 := toInt_ne h32
                                have mh32 : (6 : Int32).toInt = 6 := by decide
                                rw [mh32] at nh32
                                have nh37 := toInt_ne h37
                                have mh37 : (7 : Int32).toInt = 7 := by decide
                                rw [mh37] at nh37
                                have nh42 := toInt_ne h42
                                have mh42 : (8 : Int32).toInt = 8 := by decide
                                rw [mh42] at nh42
                                have nh47 := toInt_ne h47
                                have mh47 : (9 : Int32).toInt = 9 := by decide
                                rw [mh47] at nh47
                                have nh52 := toInt_ne h52
                                have mh52 : (10 : Int32).toInt = 10 := by decide
                                rw [mh52] at nh52
                                have nh57 := toInt_ne h57
                                have mh57 : (11 : Int32).toInt = 11 := by decide
                                rw [mh57] at nh57
                                have nh62 := toInt_ne h62
                                have mh62 : (12 : Int32).toInt = 12 := by decide
                                rw [mh62] at nh62
                                omega) (by decide) ?_
                              refine r_iconst (pc := 355) cx dX10_flippedAt_355 ic_m1 ?_
                              cases hf
                              exact r_iret (pc := 356) cx rfl rfl dX10_flippedAt_356
  · have hf := ifn h1 hf
    refine r_iconst (pc := 4) cx dX10_flippedAt_4 ic_m1 ?_
    cases hf
    exact r_iret (pc := 5) cx rfl rfl dX10_flippedAt_5
theorem yv_X10_flippedAt : YV yX10_flippedAt cX10_flippedAt 4 (some .int) 3 := ⟨⟨by decide +kernel, by decide +kernel, by decide +kernel⟩, wd_1706, wd_102, wd_1705, wd_75⟩
def f_M_flips (v : T_M) (a1 : Int32) (a2 : Int32) (a3 : Int32) : Option (Int32 × T_M) :=
  (bd (f_M_flippedAt v a1 a2 a3) fun (r1 : Int32) => (if r1 = (-1 : Int32) then (some ((0 : Int32), v)) else (if ix r1 314 then (nm (((M_s (M_rn v)) r1.toNatClampNeg) ^^^ ((1 : Int32) <<< (a3 &&& 31))) fun (x5 : Int32) => (if ix r1 314 then (nm (upd (M_s (M_rn v)) r1.toNatClampNeg x5) fun (f7 : Nat → Int32) => (bd (f_M_sticks ((M_tp v), (M_rd v), (M_lf v), (M_cd v), (f7, (M_spanNow (M_rn v)), (M_sizeNow (M_rn v)), (M_placeThen (M_rn v))), (M_ex v), (M_im v), (M_al v), (M_thrown v))) fun (v8 : T_M) => (some ((1 : Int32), v8)))) else none)) else none)))
abbrev rm_M_flips : Room := { frames := 2, cells := 0, slots := 0, locals := 44 }
set_option maxRecDepth 100000 in
set_option maxHeartbeats 4000000 in
theorem m_M_flips (l : Launch) (D : va_G) (K : Nat → ClassId) (q : Nat → Nat) (v : T_M) (a1 : Int32) (a2 : Int32) (a3 : Int32) {r_ : Int32} {o_v : T_M} (hf : f_M_flips v a1 a2 a3 = some (r_, o_v)) : MI l yX10_flips cX10_flips 5 (some .boolean) rm_M_flips D K [.ref (q 0), .int a1, .int a2, .int a3] (cl_M K q v) r_ (cl_M K q o_v) := by
  refine MI_of (loc0 := [(0, .ref (q 0)), (1, .int a1), (2, .int a2), (3, .int a3)]) (by decide +kernel) rfl (Nat.le_of_ble_eq_true rfl) ?_
  intro p e s m args below meth c A cx
  unfold f_M_flips at hf
  refine r_ws (ws' := [((q 0), ob 9 [.int (M_thrown v), .ref (q 1), .int (M_taped (M_tp v)), .ref (q 2), .ref (q 3), .ref (q 4), .ref (q 5), .ref (q 6), .ref (q 7), .ref (q 8), .ref (q 9), .ref (q 10), .ref (q 11), .ref (q 12), .ref (q 13), .ref (q 14), .int (M_lines (M_rd v)), .int (M_size (M_rd v)), .int (M_at (M_rd v)), .int (M_place (M_rd v)), .int (M_sort (M_rd v)), .int (M_value (M_rd v)), .int (M_fault (M_rd v)), .int (M_faultPlace (M_rd v)), .int (M_lastFault (M_lf v)), .int (M_lastPlace (M_lf v)), .ref (q 15), .ref (q 16), .ref (q 17), .ref (q 18), .int (M_hasImage (M_im v)), .int (M_spanNow (M_rn v)), .ref (q 19), .int (M_placeThen (M_rn v)), .int (M_alonePlace (M_al v)), .int (M_aloneSteps (M_al v)), .int (M_aloneOut (M_al v)), .ref (q 20), .ref (q 21), .ref (q 22), .ref (q 23), .int (M_shotAlarm (M_ex v)), .int (M_drawn (M_ex v))]), ((q 1), aI K 700 (M_tape (M_tp v))), ((q 2), aI K 20 (M_number (M_cd v))), ((q 3), aZ K 5 (M_isTold (M_rd v))), ((q 4), aI K 80 (M_codeSort (M_cd v))), ((q 5), aI K 80 (M_codeA (M_cd v))), ((q 6), aI K 80 (M_codeB (M_cd v))), ((q 7), aI K 80 (M_codeC (M_cd v))), ((q 8), aI K 80 (M_codeName (M_cd v))), ((q 9), aI K 80 (M_codePlace (M_cd v))), ((q 10), aI K 80 (M_codeTo (M_cd v))), ((q 11), aI K 280 (M_labelName (M_cd v))), ((q 12), aI K 280 (M_labelAt (M_cd v))), ((q 13), aI K 64 (M_data (M_cd v))), ((q 14), aZ K 32 (M_hasData (M_rd v))), ((q 15), aI K 314 (M_s (M_rn v))), ((q 16), aI K 314 (M_aside (M_ex v))), ((q 17), aI K 314 (M_further (M_ex v))), ((q 18), aI K 314 (M_image (M_im v))), ((q 19), aI K 3 (M_sizeNow (M_rn v))), ((q 20), aI K 8 (M_aloneRegister (M_al v))), ((q 21), aI K 4 (M_aloneReal (M_al v))), ((q 22), aI K 32 (M_aloneMemory (M_al v))), ((q 23), aI K 999 (M_aloneOutput (M_al v)))]) rfl ?_
  refine r_aload_n (pc := 0) cx dX10_flips_0 0 rfl ?_
  refine r_iload_n (pc := 1) cx dX10_flips_1 1 rfl ?_
  refine r_iload_n (pc := 2) cx dX10_flips_2 2 rfl ?_
  refine r_iload_n (pc := 3) cx dX10_flips_3 3 rfl ?_
  obtain ⟨r1, hc2, hf⟩ := bd_of hf
  refine r_Vi (pc := 4) (ws' := [((q 0), ob 9 [.int (M_thrown v), .ref (q 1), .int (M_taped (M_tp v)), .ref (q 2), .ref (q 3), .ref (q 4), .ref (q 5), .ref (q 6), .ref (q 7), .ref (q 8), .ref (q 9), .ref (q 10), .ref (q 11), .ref (q 12), .ref (q 13), .ref (q 14), .int (M_lines (M_rd v)), .int (M_size (M_rd v)), .int (M_at (M_rd v)), .int (M_place (M_rd v)), .int (M_sort (M_rd v)), .int (M_value (M_rd v)), .int (M_fault (M_rd v)), .int (M_faultPlace (M_rd v)), .int (M_lastFault (M_lf v)), .int (M_lastPlace (M_lf v)), .ref (q 15), .ref (q 16), .ref (q 17), .ref (q 18), .int (M_hasImage (M_im v)), .int (M_spanNow (M_rn v)), .ref (q 19), .int (M_placeThen (M_rn v)), .int (M_alonePlace (M_al v)), .int (M_aloneSteps (M_al v)), .int (M_aloneOut (M_al v)), .ref (q 20), .ref (q 21), .ref (q 22), .ref (q 23), .int (M_shotAlarm (M_ex v)), .int (M_drawn (M_ex v))]), ((q 1), aI K 700 (M_tape (M_tp v))), ((q 2), aI K 20 (M_number (M_cd v))), ((q 3), aZ K 5 (M_isTold (M_rd v))), ((q 4), aI K 80 (M_codeSort (M_cd v))), ((q 5), aI K 80 (M_codeA (M_cd v))), ((q 6), aI K 80 (M_codeB (M_cd v))), ((q 7), aI K 80 (M_codeC (M_cd v))), ((q 8), aI K 80 (M_codeName (M_cd v))), ((q 9), aI K 80 (M_codePlace (M_cd v))), ((q 10), aI K 80 (M_codeTo (M_cd v))), ((q 11), aI K 280 (M_labelName (M_cd v))), ((q 12), aI K 280 (M_labelAt (M_cd v))), ((q 13), aI K 64 (M_data (M_cd v))), ((q 14), aZ K 32 (M_hasData (M_rd v))), ((q 15), aI K 314 (M_s (M_rn v))), ((q 16), aI K 314 (M_aside (M_ex v))), ((q 17), aI K 314 (M_further (M_ex v))), ((q 18), aI K 314 (M_image (M_im v))), ((q 19), aI K 3 (M_sizeNow (M_rn v))), ((q 20), aI K 8 (M_aloneRegister (M_al v))), ((q 21), aI K 4 (M_aloneReal (M_al v))), ((q 22), aI K 32 (M_aloneMemory (M_al v))), ((q 23), aI K 999 (M_aloneOutput (M_al v)))]) cx [.int a1, .int a2, .int a3] [] [0, 1, 2, 3, 4, 5, 6, 7, 8, 9, 10, 11, 12, 13, 14, 15, 16, 17, 18, 19, 20, 21, 22, 23] (m_M_flippedAt l D K q v a1 a2 a3 hc2) yv_X10_flippedAt wd_1703 ⟨rfl, rfl⟩ (by decide) rfl rfl rfl (by decide) 0 rfl rfl rfl (Nat.le_of_ble_eq_true rfl) dX10_flips_4 ?_
  refine r_istore (pc := 7) (loc' := [(4, .int r1), (0, .ref (q 0)), (1, .int a1), (2, .int a2), (3, .int a3)]) cx dX10_flips_7 (by decide) rfl ?_
  refine r_iload (pc := 9) cx dX10_flips_9 0 rfl ?_
  refine r_iconst (pc := 11) cx dX10_flips_11 ic_m1 ?_
  refine r_icmp_ne (pc := 12) (tgt := 17) cx dX10_flips_12 (by decide) (fun h3 => ?_) (fun h3 => ?_)
  · have hf := ifn h3 hf
    refine r_aload_n (pc := 17) cx dX10_flips_17 1 rfl ?_
    refine r_get (pc := 18) cx cf_X10 0 26 rfl (by decide) rfl wd_1342 dX10_flips_18 ?_
    refine r_iload (pc := 21) cx dX10_flips_21 0 rfl ?_
    refine r_dup2 (pc := 23) cx dX10_flips_23 rfl rfl ?_
    obtain ⟨h4, hf⟩ := chk_of hf
    refine r_iald (pc := 24) cx 15 rfl h4 dX10_flips_24 ?_
    refine r_iconst (pc := 25) cx dX10_flips_25 ic_1 ?_
    refine r_iload_n (pc := 26) cx dX10_flips_26 4 rfl ?_
    refine r_ishl (pc := 27) cx dX10_flips_27 ?_
    refine r_ixor (pc := 28) cx dX10_flips_28 ?_
    obtain ⟨x5, ex5, hf⟩ := nm_of hf
    refine r_nm ex5 ?_
    obtain ⟨h6, hf⟩ := chk_of hf
    obtain ⟨f7, ef7, hf⟩ := nm_of hf
    refine r_iast (pc := 29) (ws' := [((q 0), ob 9 [.int (M_thrown v), .ref (q 1), .int (M_taped (M_tp v)), .ref (q 2), .ref (q 3), .ref (q 4), .ref (q 5), .ref (q 6), .ref (q 7), .ref (q 8), .ref (q 9), .ref (q 10), .ref (q 11), .ref (q 12), .ref (q 13), .ref (q 14), .int (M_lines (M_rd v)), .int (M_size (M_rd v)), .int (M_at (M_rd v)), .int (M_place (M_rd v)), .int (M_sort (M_rd v)), .int (M_value (M_rd v)), .int (M_fault (M_rd v)), .int (M_faultPlace (M_rd v)), .int (M_lastFault (M_lf v)), .int (M_lastPlace (M_lf v)), .ref (q 15), .ref (q 16), .ref (q 17), .ref (q 18), .int (M_hasImage (M_im v)), .int (M_spanNow (M_rn v)), .ref (q 19), .int (M_placeThen (M_rn v)), .int (M_alonePlace (M_al v)), .int (M_aloneSteps (M_al v)), .int (M_aloneOut (M_al v)), .ref (q 20), .ref (q 21), .ref (q 22), .ref (q 23), .int (M_shotAlarm (M_ex v)), .int (M_drawn (M_ex v))]), ((q 1), aI K 700 (M_tape (M_tp v))), ((q 2), aI K 20 (M_number (M_cd v))), ((q 3), aZ K 5 (M_isTold (M_rd v))), ((q 4), aI K 80 (M_codeSort (M_cd v))), ((q 5), aI K 80 (M_codeA (M_cd v))), ((q 6), aI K 80 (M_codeB (M_cd v))), ((q 7), aI K 80 (M_codeC (M_cd v))), ((q 8), aI K 80 (M_codeName (M_cd v))), ((q 9), aI K 80 (M_codePlace (M_cd v))), ((q 10), aI K 80 (M_codeTo (M_cd v))), ((q 11), aI K 280 (M_labelName (M_cd v))), ((q 12), aI K 280 (M_labelAt (M_cd v))), ((q 13), aI K 64 (M_data (M_cd v))), ((q 14), aZ K 32 (M_hasData (M_rd v))), ((q 15), aI K 314 f7), ((q 16), aI K 314 (M_aside (M_ex v))), ((q 17), aI K 314 (M_further (M_ex v))), ((q 18), aI K 314 (M_image (M_im v))), ((q 19), aI K 3 (M_sizeNow (M_rn v))), ((q 20), aI K 8 (M_aloneRegister (M_al v))), ((q 21), aI K 4 (M_aloneReal (M_al v))), ((q 22), aI K 32 (M_aloneMemory (M_al v))), ((q 23), aI K 999 (M_aloneOutput (M_al v)))]) cx 15 rfl h6 dX10_flips_29 ef7 rfl ?_
    refine r_aload_n (pc := 30) cx dX10_flips_30 1 rfl ?_
    obtain ⟨v8, hc9, hf⟩ := bd_of hf
    refine r_Vv (pc := 31) (ws' := [((q 0), ob 9 [.int (M_thrown v8), .ref (q 1), .int (M_taped (M_tp v8)), .ref (q 2), .ref (q 3), .ref (q 4), .ref (q 5), .ref (q 6), .ref (q 7), .ref (q 8), .ref (q 9), .ref (q 10), .ref (q 11), .ref (q 12), .ref (q 13), .ref (q 14), .int (M_lines (M_rd v8)), .int (M_size (M_rd v8)), .int (M_at (M_rd v8)), .int (M_place (M_rd v8)), .int (M_sort (M_rd v8)), .int (M_value (M_rd v8)), .int (M_fault (M_rd v8)), .int (M_faultPlace (M_rd v8)), .int (M_lastFault (M_lf v8)), .int (M_lastPlace (M_lf v8)), .ref (q 15), .ref (q 16), .ref (q 17), .ref (q 18), .int (M_hasImage (M_im v8)), .int (M_spanNow (M_rn v8)), .ref (q 19), .int (M_placeThen (M_rn v8)), .int (M_alonePlace (M_al v8)), .int (M_aloneSteps (M_al v8)), .int (M_aloneOut (M_al v8)), .ref (q 20), .ref (q 21), .ref (q 22), .ref (q 23), .int (M_shotAlarm (M_ex v8)), .int (M_drawn (M_ex v8))]), ((q 1), aI K 700 (M_tape (M_tp v8))), ((q 2), aI K 20 (M_number (M_cd v8))), ((q 3), aZ K 5 (M_isTold (M_rd v8))), ((q 4), aI K 80 (M_codeSort (M_cd v8))), ((q 5), aI K 80 (M_codeA (M_cd v8))), ((q 6), aI K 80 (M_codeB (M_cd v8))), ((q 7), aI K 80 (M_codeC (M_cd v8))), ((q 8), aI K 80 (M_codeName (M_cd v8))), ((q 9), aI K 80 (M_codePlace (M_cd v8))), ((q 10), aI K 80 (M_codeTo (M_cd v8))), ((q 11), aI K 280 (M_labelName (M_cd v8))), ((q 12), aI K 280 (M_labelAt (M_cd v8))), ((q 13), aI K 64 (M_data (M_cd v8))), ((q 14), aZ K 32 (M_hasData (M_rd v8))), ((q 15), aI K 314 (M_s (M_rn v8))), ((q 16), aI K 314 (M_aside (M_ex v8))), ((q 17), aI K 314 (M_further (M_ex v8))), ((q 18), aI K 314 (M_image (M_im v8))), ((q 19), aI K 3 (M_sizeNow (M_rn v8))), ((q 20), aI K 8 (M_aloneRegister (M_al v8))), ((q 21), aI K 4 (M_aloneReal (M_al v8))), ((q 22), aI K 32 (M_aloneMemory (M_al v8))), ((q 23), aI K 999 (M_aloneOutput (M_al v8)))]) cx [] [] [0, 1, 2, 3, 4, 5, 6, 7, 8, 9, 10, 11, 12, 13, 14, 15, 16, 17, 18, 19, 20, 21, 22, 23] (m_M_sticks l D K q ((M_tp v), (M_rd v), (M_lf v), (M_cd v), (f7, (M_spanNow (M_rn v)), (M_sizeNow (M_rn v)), (M_placeThen (M_rn v))), (M_ex v), (M_im v), (M_al v), (M_thrown v)) hc9) yv_X10_sticks wd_1667 ⟨rfl, rfl⟩ (by decide) rfl rfl rfl (by decide) 0 rfl rfl rfl (Nat.le_of_ble_eq_true rfl) dX10_flips_31 ?_
    refine r_iconst (pc := 34) cx dX10_flips_34 ic_1 ?_
    cases hf
    exact r_zret (pc := 35) cx (Or.inr rfl) rfl rfl dX10_flips_35
  · have hf := ifp h3 hf
    refine r_iconst (pc := 15) cx dX10_flips_15 ic_0 ?_
    cases hf
    exact r_zret (pc := 16) cx (Or.inl rfl) rfl rfl dX10_flips_16
theorem yv_X10_flips : YV yX10_flips cX10_flips 5 (some .boolean) 3 := ⟨⟨by decide +kernel, by decide +kernel, by decide +kernel⟩, wd_1702, wd_102, wd_1701, wd_74⟩
def f_M_flip (v : T_M) (a1 : Int32) (a2 : Int32) (a3 : Int32) : Option (Int32 × T_M) :=
  (bd2 (f_M_flips ((M_tp v), (M_rd v), (M_lf v), (M_cd v), (M_rn v), (M_ex v), (M_im v), (M_al v), (0 : Int32)) a1 a2 a3) fun (r1 : Int32) (v2 : T_M) => (if isB r1 then (some (r1, v2)) else none))
abbrev rm_M_flip : Room := { frames := 3, cells := 0, slots := 0, locals := 68 }
set_option maxRecDepth 100000 in
set_option maxHeartbeats 4000000 in
theorem m_M_flip (l : Launch) (D : va_G) (K : Nat → ClassId) (q : Nat → Nat) (v : T_M) (a1 : Int32) (a2 : Int32) (a3 : Int32) {r_ : Int32} {o_v : T_M} (hf : f_M_flip v a1 a2 a3 = some (r_, o_v)) : MI l yX10_flip cX10_flip 4 (some .boolean) rm_M_flip D K [.ref (q 0), .int a1, .int a2, .int a3] (cl_M K q v) r_ (cl_M K q o_v) := by
  refine MI_of (loc0 := [(0, .ref (q 0)), (1, .int a1), (2, .int a2), (3, .int a3)]) (by decide +kernel) rfl (Nat.le_of_ble_eq_true rfl) ?_
  intro p e s m args below meth c A cx
  unfold f_M_flip at hf
  refine r_ws (ws' := [((q 0), ob 9 [.int (M_thrown v), .ref (q 1), .int (M_taped (M_tp v)), .ref (q 2), .ref (q 3), .ref (q 4), .ref (q 5), .ref (q 6), .ref (q 7), .ref (q 8), .ref (q 9), .ref (q 10), .ref (q 11), .ref (q 12), .ref (q 13), .ref (q 14), .int (M_lines (M_rd v)), .int (M_size (M_rd v)), .int (M_at (M_rd v)), .int (M_place (M_rd v)), .int (M_sort (M_rd v)), .int (M_value (M_rd v)), .int (M_fault (M_rd v)), .int (M_faultPlace (M_rd v)), .int (M_lastFault (M_lf v)), .int (M_lastPlace (M_lf v)), .ref (q 15), .ref (q 16), .ref (q 17), .ref (q 18), .int (M_hasImage (M_im v)), .int (M_spanNow (M_rn v)), .ref (q 19), .int (M_placeThen (M_rn v)), .int (M_alonePlace (M_al v)), .int (M_aloneSteps (M_al v)), .int (M_aloneOut (M_al v)), .ref (q 20), .ref (q 21), .ref (q 22), .ref (q 23), .int (M_shotAlarm (M_ex v)), .int (M_drawn (M_ex v))]), ((q 1), aI K 700 (M_tape (M_tp v))), ((q 2), aI K 20 (M_number (M_cd v))), ((q 3), aZ K 5 (M_isTold (M_rd v))), ((q 4), aI K 80 (M_codeSort (M_cd v))), ((q 5), aI K 80 (M_codeA (M_cd v))), ((q 6), aI K 80 (M_codeB (M_cd v))), ((q 7), aI K 80 (M_codeC (M_cd v))), ((q 8), aI K 80 (M_codeName (M_cd v))), ((q 9), aI K 80 (M_codePlace (M_cd v))), ((q 10), aI K 80 (M_codeTo (M_cd v))), ((q 11), aI K 280 (M_labelName (M_cd v))), ((q 12), aI K 280 (M_labelAt (M_cd v))), ((q 13), aI K 64 (M_data (M_cd v))), ((q 14), aZ K 32 (M_hasData (M_rd v))), ((q 15), aI K 314 (M_s (M_rn v))), ((q 16), aI K 314 (M_aside (M_ex v))), ((q 17), aI K 314 (M_further (M_ex v))), ((q 18), aI K 314 (M_image (M_im v))), ((q 19), aI K 3 (M_sizeNow (M_rn v))), ((q 20), aI K 8 (M_aloneRegister (M_al v))), ((q 21), aI K 4 (M_aloneReal (M_al v))), ((q 22), aI K 32 (M_aloneMemory (M_al v))), ((q 23), aI K 999 (M_aloneOutput (M_al v)))]) rfl ?_
  refine r_aload_n (pc := 0) cx dX10_flip_0 0 rfl ?_
  refine r_iconst (pc := 1) cx dX10_flip_1 ic_0 ?_
  refine r_putI (pc := 2) (ws' := [((q 0), ob 9 [.int (0 : Int32), .ref (q 1), .int (M_taped (M_tp v)), .ref (q 2), .ref (q 3), .ref (q 4), .ref (q 5), .ref (q 6), .ref (q 7), .ref (q 8), .ref (q 9), .ref (q 10), .ref (q 11), .ref (q 12), .ref (q 13), .ref (q 14), .int (M_lines (M_rd v)), .int (M_size (M_rd v)), .int (M_at (M_rd v)), .int (M_place (M_rd v)), .int (M_sort (M_rd v)), .int (M_value (M_rd v)), .int (M_fault (M_rd v)), .int (M_faultPlace (M_rd v)), .int (M_lastFault (M_lf v)), .int (M_lastPlace (M_lf v)), .ref (q 15), .ref (q 16), .ref (q 17), .ref (q 18), .int (M_hasImage (M_im v)), .int (M_spanNow (M_rn v)), .ref (q 19), .int (M_placeThen (M_rn v)), .int (M_alonePlace (M_al v)), .int (M_aloneSteps (M_al v)), .int (M_aloneOut (M_al v)), .ref (q 20), .ref (q 21), .ref (q 22), .ref (q 23), .int (M_shotAlarm (M_ex v)), .int (M_drawn (M_ex v))]), ((q 1), aI K 700 (M_tape (M_tp v))), ((q 2), aI K 20 (M_number (M_cd v))), ((q 3), aZ K 5 (M_isTold (M_rd v))), ((q 4), aI K 80 (M_codeSort (M_cd v))), ((q 5), aI K 80 (M_codeA (M_cd v))), ((q 6), aI K 80 (M_codeB (M_cd v))), ((q 7), aI K 80 (M_codeC (M_cd v))), ((q 8), aI K 80 (M_codeName (M_cd v))), ((q 9), aI K 80 (M_codePlace (M_cd v))), ((q 10), aI K 80 (M_codeTo (M_cd v))), ((q 11), aI K 280 (M_labelName (M_cd v))), ((q 12), aI K 280 (M_labelAt (M_cd v))), ((q 13), aI K 64 (M_data (M_cd v))), ((q 14), aZ K 32 (M_hasData (M_rd v))), ((q 15), aI K 314 (M_s (M_rn v))), ((q 16), aI K 314 (M_aside (M_ex v))), ((q 17), aI K 314 (M_further (M_ex v))), ((q 18), aI K 314 (M_image (M_im v))), ((q 19), aI K 3 (M_sizeNow (M_rn v))), ((q 20), aI K 8 (M_aloneRegister (M_al v))), ((q 21), aI K 4 (M_aloneReal (M_al v))), ((q 22), aI K 32 (M_aloneMemory (M_al v))), ((q 23), aI K 999 (M_aloneOutput (M_al v)))]) cx cf_X10 0 0 rfl (by decide) (Nat.le_of_ble_eq_true rfl) rfl pfd_I wd_1316 dX10_flip_2 rfl ?_
  refine r_aload_n (pc := 5) cx dX10_flip_5 0 rfl ?_
  refine r_iload_n (pc := 6) cx dX10_flip_6 1 rfl ?_
  refine r_iload_n (pc := 7) cx dX10_flip_7 2 rfl ?_
  refine r_iload_n (pc := 8) cx dX10_flip_8 3 rfl ?_
  obtain ⟨r1, v2, hc3, hf⟩ := bd2_of hf
  refine r_Vi (pc := 9) (ws' := [((q 0), ob 9 [.int (M_thrown v2), .ref (q 1), .int (M_taped (M_tp v2)), .ref (q 2), .ref (q 3), .ref (q 4), .ref (q 5), .ref (q 6), .ref (q 7), .ref (q 8), .ref (q 9), .ref (q 10), .ref (q 11), .ref (q 12), .ref (q 13), .ref (q 14), .int (M_lines (M_rd v2)), .int (M_size (M_rd v2)), .int (M_at (M_rd v2)), .int (M_place (M_rd v2)), .int (M_sort (M_rd v2)), .int (M_value (M_rd v2)), .int (M_fault (M_rd v2)), .int (M_faultPlace (M_rd v2)), .int (M_lastFault (M_lf v2)), .int (M_lastPlace (M_lf v2)), .ref (q 15), .ref (q 16), .ref (q 17), .ref (q 18), .int (M_hasImage (M_im v2)), .int (M_spanNow (M_rn v2)), .ref (q 19), .int (M_placeThen (M_rn v2)), .int (M_alonePlace (M_al v2)), .int (M_aloneSteps (M_al v2)), .int (M_aloneOut (M_al v2)), .ref (q 20), .ref (q 21), .ref (q 22), .ref (q 23), .int (M_shotAlarm (M_ex v2)), .int (M_drawn (M_ex v2))]), ((q 1), aI K 700 (M_tape (M_tp v2))), ((q 2), aI K 20 (M_number (M_cd v2))), ((q 3), aZ K 5 (M_isTold (M_rd v2))), ((q 4), aI K 80 (M_codeSort (M_cd v2))), ((q 5), aI K 80 (M_codeA (M_cd v2))), ((q 6), aI K 80 (M_codeB (M_cd v2))), ((q 7), aI K 80 (M_codeC (M_cd v2))), ((q 8), aI K 80 (M_codeName (M_cd v2))), ((q 9), aI K 80 (M_codePlace (M_cd v2))), ((q 10), aI K 80 (M_codeTo (M_cd v2))), ((q 11), aI K 280 (M_labelName (M_cd v2))), ((q 12), aI K 280 (M_labelAt (M_cd v2))), ((q 13), aI K 64 (M_data (M_cd v2))), ((q 14), aZ K 32 (M_hasData (M_rd v2))), ((q 15), aI K 314 (M_s (M_rn v2))), ((q 16), aI K 314 (M_aside (M_ex v2))), ((q 17), aI K 314 (M_further (M_ex v2))), ((q 18), aI K 314 (M_image (M_im v2))), ((q 19), aI K 3 (M_sizeNow (M_rn v2))), ((q 20), aI K 8 (M_aloneRegister (M_al v2))), ((q 21), aI K 4 (M_aloneReal (M_al v2))), ((q 22), aI K 32 (M_aloneMemory (M_al v2))), ((q 23), aI K 999 (M_aloneOutput (M_al v2)))]) cx [.int a1, .int a2, .int a3] [] [0, 1, 2, 3, 4, 5, 6, 7, 8, 9, 10, 11, 12, 13, 14, 15, 16, 17, 18, 19, 20, 21, 22, 23] (m_M_flips l D K q ((M_tp v), (M_rd v), (M_lf v), (M_cd v), (M_rn v), (M_ex v), (M_im v), (M_al v), (0 : Int32)) a1 a2 a3 hc3) yv_X10_flips wd_1699 ⟨rfl, rfl⟩ (by decide) rfl rfl rfl (by decide) 0 rfl rfl rfl (Nat.le_of_ble_eq_true rfl) dX10_flip_9 ?_
  obtain ⟨h4, hf⟩ := chk_of hf
  cases hf
  exact r_zret (pc := 12) cx h4 rfl rfl dX10_flip_12
theorem yv_X10_flip : YV yX10_flip cX10_flip 4 (some .boolean) 3 := ⟨⟨by decide +kernel, by decide +kernel, by decide +kernel⟩, wd_1698, wd_102, wd_1696, wd_1697⟩
def f_M_stick (v : T_M) (a1 : Int32) (a2 : Int32) (a3 : Int32) (a4 : Int32) : Option (Int32 × T_M) :=
  (if a1 < (0 : Int32) then (some ((0 : Int32), ((M_tp v), (M_rd v), (M_lf v), (M_cd v), (M_rn v), (M_ex v), (M_im v), (M_al v), (0 : Int32)))) else (if (1 : Int32) < a1 then (some ((0 : Int32), ((M_tp v), (M_rd v), (M_lf v), (M_cd v), (M_rn v), (M_ex v), (M_im v), (M_al v), (0 : Int32)))) else (if a2 < (0 : Int32) then (some ((0 : Int32), ((M_tp v), (M_rd v), (M_lf v), (M_cd v), (M_rn v), (M_ex v), (M_im v), (M_al v), (0 : Int32)))) else (if (8 : Int32) ≤ a2 then (some ((0 : Int32), ((M_tp v), (M_rd v), (M_lf v), (M_cd v), (M_rn v), (M_ex v), (M_im v), (M_al v), (0 : Int32)))) else (bd (f_M_isBit a3 (32 : Int32)) fun (r5 : Int32) => (if r5 = (0 : Int32) then (some ((0 : Int32), ((M_tp v), (M_rd v), (M_lf v), (M_cd v), (M_rn v), (M_ex v), (M_im v), (M_al v), (0 : Int32)))) else (nm (((8 : Int32) * a1) + a2) fun (x8 : Int32) => (nm ((54 : Int32) + x8) fun (x9 : Int32) => (if ix x9 314 then (nm (((M_s (M_rn v)) x9.toNatClampNeg) ||| ((1 : Int32) <<< (a3 &&& 31))) fun (x11 : Int32) => (if ix x9 314 then (nm (upd (M_s (M_rn v)) x9.toNatClampNeg x11) fun (f13 : Nat → Int32) => (nm (fun (y14 : Int32) => ((if ix ((70 : Int32) + x8) 314 then (nm (upd f13 (((70 : Int32) + x8)).toNatClampNeg y14) fun (f17 : Nat → Int32) => (bd (f_M_sticks ((M_tp v), (M_rd v), (M_lf v), (M_cd v), (f17, (M_spanNow (M_rn v)), (M_sizeNow (M_rn v)), (M_placeThen (M_rn v))), (M_ex v), (M_im v), (M_al v), (0 : Int32))) fun (v18 : T_M) => (some ((1 : Int32), v18)))) else none) : Option (Int32 × T_M))) fun J15 => (if a4 = (0 : Int32) then (if ix ((70 : Int32) + x8) 314 then (J15 ((f13 (((70 : Int32) + x8)).toNatClampNeg) &&& (((1 : Int32) <<< (a3 &&& 31)) ^^^ (-1 : Int32)))) else none) else (if ix ((70 : Int32) + x8) 314 then (J15 ((f13 (((70 : Int32) + x8)).toNatClampNeg) ||| ((1 : Int32) <<< (a3 &&& 31)))) else none)))) else none)) else none)))))))))
abbrev rm_M_stick : Room := { frames := 1, cells := 0, slots := 0, locals := 21 }
set_option maxRecDepth 100000 in
set_option maxHeartbeats 4000000 in
theorem m_M_stick (l : Launch) (D : va_G) (K : Nat → ClassId) (q : Nat → Nat) (v : T_M) (a1 : Int32) (a2 : Int32) (a3 : Int32) (a4 : Int32) {r_ : Int32} {o_v : T_M} (hf : f_M_stick v a1 a2 a3 a4 = some (r_, o_v)) : MI l yX10_stick cX10_stick 6 (some .boolean) rm_M_stick D K [.ref (q 0), .int a1, .int a2, .int a3, .int a4] (cl_M K q v) r_ (cl_M K q o_v) := by
  refine MI_of (loc0 := [(0, .ref (q 0)), (1, .int a1), (2, .int a2), (3, .int a3), (4, .int a4)]) (by decide +kernel) rfl (Nat.le_of_ble_eq_true rfl) ?_
  intro p e s m args below meth c A cx
  unfold f_M_stick at hf
  refine r_ws (ws' := [((q 0), ob 9 [.int (M_thrown v), .ref (q 1), .int (M_taped (M_tp v)), .ref (q 2), .ref (q 3), .ref (q 4), .ref (q 5), .ref (q 6), .ref (q 7), .ref (q 8), .ref (q 9), .ref (q 10), .ref (q 11), .ref (q 12), .ref (q 13), .ref (q 14), .int (M_lines (M_rd v)), .int (M_size (M_rd v)), .int (M_at (M_rd v)), .int (M_place (M_rd v)), .int (M_sort (M_rd v)), .int (M_value (M_rd v)), .int (M_fault (M_rd v)), .int (M_faultPlace (M_rd v)), .int (M_lastFault (M_lf v)), .int (M_lastPlace (M_lf v)), .ref (q 15), .ref (q 16), .ref (q 17), .ref (q 18), .int (M_hasImage (M_im v)), .int (M_spanNow (M_rn v)), .ref (q 19), .int (M_placeThen (M_rn v)), .int (M_alonePlace (M_al v)), .int (M_aloneSteps (M_al v)), .int (M_aloneOut (M_al v)), .ref (q 20), .ref (q 21), .ref (q 22), .ref (q 23), .int (M_shotAlarm (M_ex v)), .int (M_drawn (M_ex v))]), ((q 1), aI K 700 (M_tape (M_tp v))), ((q 2), aI K 20 (M_number (M_cd v))), ((q 3), aZ K 5 (M_isTold (M_rd v))), ((q 4), aI K 80 (M_codeSort (M_cd v))), ((q 5), aI K 80 (M_codeA (M_cd v))), ((q 6), aI K 80 (M_codeB (M_cd v))), ((q 7), aI K 80 (M_codeC (M_cd v))), ((q 8), aI K 80 (M_codeName (M_cd v))), ((q 9), aI K 80 (M_codePlace (M_cd v))), ((q 10), aI K 80 (M_codeTo (M_cd v))), ((q 11), aI K 280 (M_labelName (M_cd v))), ((q 12), aI K 280 (M_labelAt (M_cd v))), ((q 13), aI K 64 (M_data (M_cd v))), ((q 14), aZ K 32 (M_hasData (M_rd v))), ((q 15), aI K 314 (M_s (M_rn v))), ((q 16), aI K 314 (M_aside (M_ex v))), ((q 17), aI K 314 (M_further (M_ex v))), ((q 18), aI K 314 (M_image (M_im v))), ((q 19), aI K 3 (M_sizeNow (M_rn v))), ((q 20), aI K 8 (M_aloneRegister (M_al v))), ((q 21), aI K 4 (M_aloneReal (M_al v))), ((q 22), aI K 32 (M_aloneMemory (M_al v))), ((q 23), aI K 999 (M_aloneOutput (M_al v)))]) rfl ?_
  refine r_aload_n (pc := 0) cx dX10_stick_0 0 rfl ?_
  refine r_iconst (pc := 1) cx dX10_stick_1 ic_0 ?_
  refine r_putI (pc := 2) (ws' := [((q 0), ob 9 [.int (0 : Int32), .ref (q 1), .int (M_taped (M_tp v)), .ref (q 2), .ref (q 3), .ref (q 4), .ref (q 5), .ref (q 6), .ref (q 7), .ref (q 8), .ref (q 9), .ref (q 10), .ref (q 11), .ref (q 12), .ref (q 13), .ref (q 14), .int (M_lines (M_rd v)), .int (M_size (M_rd v)), .int (M_at (M_rd v)), .int (M_place (M_rd v)), .int (M_sort (M_rd v)), .int (M_value (M_rd v)), .int (M_fault (M_rd v)), .int (M_faultPlace (M_rd v)), .int (M_lastFault (M_lf v)), .int (M_lastPlace (M_lf v)), .ref (q 15), .ref (q 16), .ref (q 17), .ref (q 18), .int (M_hasImage (M_im v)), .int (M_spanNow (M_rn v)), .ref (q 19), .int (M_placeThen (M_rn v)), .int (M_alonePlace (M_al v)), .int (M_aloneSteps (M_al v)), .int (M_aloneOut (M_al v)), .ref (q 20), .ref (q 21), .ref (q 22), .ref (q 23), .int (M_shotAlarm (M_ex v)), .int (M_drawn (M_ex v))]), ((q 1), aI K 700 (M_tape (M_tp v))), ((q 2), aI K 20 (M_number (M_cd v))), ((q 3), aZ K 5 (M_isTold (M_rd v))), ((q 4), aI K 80 (M_codeSort (M_cd v))), ((q 5), aI K 80 (M_codeA (M_cd v))), ((q 6), aI K 80 (M_codeB (M_cd v))), ((q 7), aI K 80 (M_codeC (M_cd v))), ((q 8), aI K 80 (M_codeName (M_cd v))), ((q 9), aI K 80 (M_codePlace (M_cd v))), ((q 10), aI K 80 (M_codeTo (M_cd v))), ((q 11), aI K 280 (M_labelName (M_cd v))), ((q 12), aI K 280 (M_labelAt (M_cd v))), ((q 13), aI K 64 (M_data (M_cd v))), ((q 14), aZ K 32 (M_hasData (M_rd v))), ((q 15), aI K 314 (M_s (M_rn v))), ((q 16), aI K 314 (M_aside (M_ex v))), ((q 17), aI K 314 (M_further (M_ex v))), ((q 18), aI K 314 (M_image (M_im v))), ((q 19), aI K 3 (M_sizeNow (M_rn v))), ((q 20), aI K 8 (M_aloneRegister (M_al v))), ((q 21), aI K 4 (M_aloneReal (M_al v))), ((q 22), aI K 32 (M_aloneMemory (M_al v))), ((q 23), aI K 999 (M_aloneOutput (M_al v)))]) cx cf_X10 0 0 rfl (by decide) (Nat.le_of_ble_eq_true rfl) rfl pfd_I wd_1316 dX10_stick_2 rfl ?_
  refine r_iload_n (pc := 5) cx dX10_stick_5 1 rfl ?_
  refine r_if_lt (pc := 6) (tgt := 33) cx dX10_stick_6 (by decide) (fun h1 => ?_) (fun h1 => ?_)
  · have hf := ifp h1 hf
    refine r_iconst (pc := 33) cx dX10_stick_33 ic_0 ?_
    cases hf
    exact r_zret (pc := 34) cx (Or.inl rfl) rfl rfl dX10_stick_34
  · have hf := ifn h1 hf
    refine r_iload_n (pc := 9) cx dX10_stick_9 1 rfl ?_
    refine r_iconst (pc := 10) cx dX10_stick_10 ic_1 ?_
    refine r_icmp_gt (pc := 11) (tgt := 33) cx dX10_stick_11 (by decide) (fun h2 => ?_) (fun h2 => ?_)
    · have hf := ifp h2 hf
      refine r_iconst (pc := 33) cx dX10_stick_33 ic_0 ?_
      cases hf
      exact r_zret (pc := 34) cx (Or.inl rfl) rfl rfl dX10_stick_34
    · have hf := ifn h2 hf
      refine r_iload_n (pc := 14) cx dX10_stick_14 2 rfl ?_
      refine r_if_lt (pc := 15) (tgt := 33) cx dX10_stick_15 (by decide) (fun h3 => ?_) (fun h3 => ?_)
      · have hf := ifp h3 hf
        refine r_iconst (pc := 33) cx dX10_stick_33 ic_0 ?_
        cases hf
        exact r_zret (pc := 34) cx (Or.inl rfl) rfl rfl dX10_stick_34
      · have hf := ifn h3 hf
        refine r_iload_n (pc := 18) cx dX10_stick_18 2 rfl ?_
        refine r_bipush (pc := 19) cx dX10_stick_19 bp_8 ?_
        refine r_icmp_ge (pc := 21) (tgt := 33) cx dX10_stick_21 (by decide) (fun h4 => ?_) (fun h4 => ?_)
        · have hf := ifp h4 hf
          refine r_iconst (pc := 33) cx dX10_stick_33 ic_0 ?_
          cases hf
          exact r_zret (pc := 34) cx (Or.inl rfl) rfl rfl dX10_stick_34
        · have hf := ifn h4 hf
          refine r_iload_n (pc := 24) cx dX10_stick_24 3 rfl ?_
          refine r_bipush (pc := 25) cx dX10_stick_25 bp_32 ?_
          obtain ⟨r5, hc6, hf⟩ := bd_of hf
          refine r_Si (pc := 27) (ws' := [((q 0), ob 9 [.int (0 : Int32), .ref (q 1), .int (M_taped (M_tp v)), .ref (q 2), .ref (q 3), .ref (q 4), .ref (q 5), .ref (q 6), .ref (q 7), .ref (q 8), .ref (q 9), .ref (q 10), .ref (q 11), .ref (q 12), .ref (q 13), .ref (q 14), .int (M_lines (M_rd v)), .int (M_size (M_rd v)), .int (M_at (M_rd v)), .int (M_place (M_rd v)), .int (M_sort (M_rd v)), .int (M_value (M_rd v)), .int (M_fault (M_rd v)), .int (M_faultPlace (M_rd v)), .int (M_lastFault (M_lf v)), .int (M_lastPlace (M_lf v)), .ref (q 15), .ref (q 16), .ref (q 17), .ref (q 18), .int (M_hasImage (M_im v)), .int (M_spanNow (M_rn v)), .ref (q 19), .int (M_placeThen (M_rn v)), .int (M_alonePlace (M_al v)), .int (M_aloneSteps (M_al v)), .int (M_aloneOut (M_al v)), .ref (q 20), .ref (q 21), .ref (q 22), .ref (q 23), .int (M_shotAlarm (M_ex v)), .int (M_drawn (M_ex v))]), ((q 1), aI K 700 (M_tape (M_tp v))), ((q 2), aI K 20 (M_number (M_cd v))), ((q 3), aZ K 5 (M_isTold (M_rd v))), ((q 4), aI K 80 (M_codeSort (M_cd v))), ((q 5), aI K 80 (M_codeA (M_cd v))), ((q 6), aI K 80 (M_codeB (M_cd v))), ((q 7), aI K 80 (M_codeC (M_cd v))), ((q 8), aI K 80 (M_codeName (M_cd v))), ((q 9), aI K 80 (M_codePlace (M_cd v))), ((q 10), aI K 80 (M_codeTo (M_cd v))), ((q 11), aI K 280 (M_labelName (M_cd v))), ((q 12), aI K 280 (M_labelAt (M_cd v))), ((q 13), aI K 64 (M_data (M_cd v))), ((q 14), aZ K 32 (M_hasData (M_rd v))), ((q 15), aI K 314 (M_s (M_rn v))), ((q 16), aI K 314 (M_aside (M_ex v))), ((q 17), aI K 314 (M_further (M_ex v))), ((q 18), aI K 314 (M_image (M_im v))), ((q 19), aI K 3 (M_sizeNow (M_rn v))), ((q 20), aI K 8 (M_aloneRegister (M_al v))), ((q 21), aI K 4 (M_aloneReal (M_al v))), ((q 22), aI K 32 (M_aloneMemory (M_al v))), ((q 23), aI K 999 (M_aloneOutput (M_al v)))]) cx [.int a3, .int (32 : Int32)] [] [] (m_M_isBit l D K a3 (32 : Int32) hc6) ys_X10_isBit wd_1707 ⟨rfl, rfl⟩ (by decide) rfl rfl rfl (by decide) rfl (Nat.le_of_ble_eq_true rfl) dX10_stick_27 ?_
          refine r_if_ne (pc := 30) (tgt := 35) cx dX10_stick_30 (by decide) (fun h7 => ?_) (fun h7 => ?_)
          · have hf := ifn h7 hf
            refine r_bipush (pc := 35) cx dX10_stick_35 bp_8 ?_
            refine r_iload_n (pc := 37) cx dX10_stick_37 1 rfl ?_
            refine r_imul (pc := 38) cx dX10_stick_38 ?_
            refine r_iload_n (pc := 39) cx dX10_stick_39 2 rfl ?_
            refine r_iadd (pc := 40) cx dX10_stick_40 ?_
            obtain ⟨x8, ex8, hf⟩ := nm_of hf
            refine r_nm ex8 ?_
            refine r_istore (pc := 41) (loc' := [(5, .int x8), (0, .ref (q 0)), (1, .int a1), (2, .int a2), (3, .int a3), (4, .int a4)]) cx dX10_stick_41 (by decide) rfl ?_
            refine r_aload_n (pc := 43) cx dX10_stick_43 1 rfl ?_
            refine r_get (pc := 44) cx cf_X10 0 26 rfl (by decide) rfl wd_1342 dX10_stick_44 ?_
            refine r_bipush (pc := 47) cx dX10_stick_47 bp_54 ?_
            refine r_iload (pc := 49) cx dX10_stick_49 0 rfl ?_
            refine r_iadd (pc := 51) cx dX10_stick_51 ?_
            obtain ⟨x9, ex9, hf⟩ := nm_of hf
            refine r_nm ex9 ?_
            refine r_dup2 (pc := 52) cx dX10_stick_52 rfl rfl ?_
            obtain ⟨h10, hf⟩ := chk_of hf
            refine r_iald (pc := 53) cx 15 rfl h10 dX10_stick_53 ?_
            refine r_iconst (pc := 54) cx dX10_stick_54 ic_1 ?_
            refine r_iload_n (pc := 55) cx dX10_stick_55 4 rfl ?_
            refine r_ishl (pc := 56) cx dX10_stick_56 ?_
            refine r_ior (pc := 57) cx dX10_stick_57 ?_
            obtain ⟨x11, ex11, hf⟩ := nm_of hf
            refine r_nm ex11 ?_
            obtain ⟨h12, hf⟩ := chk_of hf
            obtain ⟨f13, ef13, hf⟩ := nm_of hf
            refine r_iast (pc := 58) (ws' := [((q 0), ob 9 [.int (0 : Int32), .ref (q 1), .int (M_taped (M_tp v)), .ref (q 2), .ref (q 3), .ref (q 4), .ref (q 5), .ref (q 6), .ref (q 7), .ref (q 8), .ref (q 9), .ref (q 10), .ref (q 11), .ref (q 12), .ref (q 13), .ref (q 14), .int (M_lines (M_rd v)), .int (M_size (M_rd v)), .int (M_at (M_rd v)), .int (M_place (M_rd v)), .int (M_sort (M_rd v)), .int (M_value (M_rd v)), .int (M_fault (M_rd v)), .int (M_faultPlace (M_rd v)), .int (M_lastFault (M_lf v)), .int (M_lastPlace (M_lf v)), .ref (q 15), .ref (q 16), .ref (q 17), .ref (q 18), .int (M_hasImage (M_im v)), .int (M_spanNow (M_rn v)), .ref (q 19), .int (M_placeThen (M_rn v)), .int (M_alonePlace (M_al v)), .int (M_aloneSteps (M_al v)), .int (M_aloneOut (M_al v)), .ref (q 20), .ref (q 21), .ref (q 22), .ref (q 23), .int (M_shotAlarm (M_ex v)), .int (M_drawn (M_ex v))]), ((q 1), aI K 700 (M_tape (M_tp v))), ((q 2), aI K 20 (M_number (M_cd v))), ((q 3), aZ K 5 (M_isTold (M_rd v))), ((q 4), aI K 80 (M_codeSort (M_cd v))), ((q 5), aI K 80 (M_codeA (M_cd v))), ((q 6), aI K 80 (M_codeB (M_cd v))), ((q 7), aI K 80 (M_codeC (M_cd v))), ((q 8), aI K 80 (M_codeName (M_cd v))), ((q 9), aI K 80 (M_codePlace (M_cd v))), ((q 10), aI K 80 (M_codeTo (M_cd v))), ((q 11), aI K 280 (M_labelName (M_cd v))), ((q 12), aI K 280 (M_labelAt (M_cd v))), ((q 13), aI K 64 (M_data (M_cd v))), ((q 14), aZ K 32 (M_hasData (M_rd v))), ((q 15), aI K 314 f13), ((q 16), aI K 314 (M_aside (M_ex v))), ((q 17), aI K 314 (M_further (M_ex v))), ((q 18), aI K 314 (M_image (M_im v))), ((q 19), aI K 3 (M_sizeNow (M_rn v))), ((q 20), aI K 8 (M_aloneRegister (M_al v))), ((q 21), aI K 4 (M_aloneReal (M_al v))), ((q 22), aI K 32 (M_aloneMemory (M_al v))), ((q 23), aI K 999 (M_aloneOutput (M_al v)))]) cx 15 rfl h12 dX10_stick_58 ef13 rfl ?_
            refine r_aload_n (pc := 59) cx dX10_stick_59 1 rfl ?_
            refine r_get (pc := 60) cx cf_X10 0 26 rfl (by decide) rfl wd_1342 dX10_stick_60 ?_
            refine r_bipush (pc := 63) cx dX10_stick_63 bp_70 ?_
            refine r_iload (pc := 65) cx dX10_stick_65 0 rfl ?_
            refine r_iadd (pc := 67) cx dX10_stick_67 ?_
            refine r_iload (pc := 68) cx dX10_stick_68 5 rfl ?_
            obtain ⟨J15, eJ15, hf⟩ := nm_of hf
            have hJ15 : ∀ (y14 : Int32), J15 y14 = some (r_, o_v) → WW p l e rm_M_stick s m args below meth c D A 6 0 0 (MQ below (QI D K A r_ (cl_M K q o_v)) args s 0 0 A) ([((q 0), ob 9 [.int (0 : Int32), .ref (q 1), .int (M_taped (M_tp v)), .ref (q 2), .ref (q 3), .ref (q 4), .ref (q 5), .ref (q 6), .ref (q 7), .ref (q 8), .ref (q 9), .ref (q 10), .ref (q 11), .ref (q 12), .ref (q 13), .ref (q 14), .int (M_lines (M_rd v)), .int (M_size (M_rd v)), .int (M_at (M_rd v)), .int (M_place (M_rd v)), .int (M_sort (M_rd v)), .int (M_value (M_rd v)), .int (M_fault (M_rd v)), .int (M_faultPlace (M_rd v)), .int (M_lastFault (M_lf v)), .int (M_lastPlace (M_lf v)), .ref (q 15), .ref (q 16), .ref (q 17), .ref (q 18), .int (M_hasImage (M_im v)), .int (M_spanNow (M_rn v)), .ref (q 19), .int (M_placeThen (M_rn v)), .int (M_alonePlace (M_al v)), .int (M_aloneSteps (M_al v)), .int (M_aloneOut (M_al v)), .ref (q 20), .ref (q 21), .ref (q 22), .ref (q 23), .int (M_shotAlarm (M_ex v)), .int (M_drawn (M_ex v))]), ((q 1), aI K 700 (M_tape (M_tp v))), ((q 2), aI K 20 (M_number (M_cd v))), ((q 3), aZ K 5 (M_isTold (M_rd v))), ((q 4), aI K 80 (M_codeSort (M_cd v))), ((q 5), aI K 80 (M_codeA (M_cd v))), ((q 6), aI K 80 (M_codeB (M_cd v))), ((q 7), aI K 80 (M_codeC (M_cd v))), ((q 8), aI K 80 (M_codeName (M_cd v))), ((q 9), aI K 80 (M_codePlace (M_cd v))), ((q 10), aI K 80 (M_codeTo (M_cd v))), ((q 11), aI K 280 (M_labelName (M_cd v))), ((q 12), aI K 280 (M_labelAt (M_cd v))), ((q 13), aI K 64 (M_data (M_cd v))), ((q 14), aZ K 32 (M_hasData (M_rd v))), ((q 15), aI K 314 f13), ((q 16), aI K 314 (M_aside (M_ex v))), ((q 17), aI K 314 (M_further (M_ex v))), ((q 18), aI K 314 (M_image (M_im v))), ((q 19), aI K 3 (M_sizeNow (M_rn v))), ((q 20), aI K 8 (M_aloneRegister (M_al v))), ((q 21), aI K 4 (M_aloneReal (M_al v))), ((q 22), aI K 32 (M_aloneMemory (M_al v))), ((q 23), aI K 999 (M_aloneOutput (M_al v)))]) ([(0, .ref (q 0))]) ([.int y14, .int ((70 : Int32) + x8), .ref (q 15)]) 106 := by
              intro y14 hf
              rw [eJ15] at hf
              obtain ⟨h16, hf⟩ := chk_of hf
              obtain ⟨f17, ef17, hf⟩ := nm_of hf
              refine r_iast (pc := 106) (ws' := [((q 0), ob 9 [.int (0 : Int32), .ref (q 1), .int (M_taped (M_tp v)), .ref (q 2), .ref (q 3), .ref (q 4), .ref (q 5), .ref (q 6), .ref (q 7), .ref (q 8), .ref (q 9), .ref (q 10), .ref (q 11), .ref (q 12), .ref (q 13), .ref (q 14), .int (M_lines (M_rd v)), .int (M_size (M_rd v)), .int (M_at (M_rd v)), .int (M_place (M_rd v)), .int (M_sort (M_rd v)), .int (M_value (M_rd v)), .int (M_fault (M_rd v)), .int (M_faultPlace (M_rd v)), .int (M_lastFault (M_lf v)), .int (M_lastPlace (M_lf v)), .ref (q 15), .ref (q 16), .ref (q 17), .ref (q 18), .int (M_hasImage (M_im v)), .int (M_spanNow (M_rn v)), .ref (q 19), .int (M_placeThen (M_rn v)), .int (M_alonePlace (M_al v)), .int (M_aloneSteps (M_al v)), .int (M_aloneOut (M_al v)), .ref (q 20), .ref (q 21), .ref (q 22), .ref (q 23), .int (M_shotAlarm (M_ex v)), .int (M_drawn (M_ex v))]), ((q 1), aI K 700 (M_tape (M_tp v))), ((q 2), aI K 20 (M_number (M_cd v))), ((q 3), aZ K 5 (M_isTold (M_rd v))), ((q 4), aI K 80 (M_codeSort (M_cd v))), ((q 5), aI K 80 (M_codeA (M_cd v))), ((q 6), aI K 80 (M_codeB (M_cd v))), ((q 7), aI K 80 (M_codeC (M_cd v))), ((q 8), aI K 80 (M_codeName (M_cd v))), ((q 9), aI K 80 (M_codePlace (M_cd v))), ((q 10), aI K 80 (M_codeTo (M_cd v))), ((q 11), aI K 280 (M_labelName (M_cd v))), ((q 12), aI K 280 (M_labelAt (M_cd v))), ((q 13), aI K 64 (M_data (M_cd v))), ((q 14), aZ K 32 (M_hasData (M_rd v))), ((q 15), aI K 314 f17), ((q 16), aI K 314 (M_aside (M_ex v))), ((q 17), aI K 314 (M_further (M_ex v))), ((q 18), aI K 314 (M_image (M_im v))), ((q 19), aI K 3 (M_sizeNow (M_rn v))), ((q 20), aI K 8 (M_aloneRegister (M_al v))), ((q 21), aI K 4 (M_aloneReal (M_al v))), ((q 22), aI K 32 (M_aloneMemory (M_al v))), ((q 23), aI K 999 (M_aloneOutput (M_al v)))]) cx 15 rfl h16 dX10_stick_106 ef17 rfl ?_
              refine r_aload_n (pc := 107) cx dX10_stick_107 0 rfl ?_
              obtain ⟨v18, hc19, hf⟩ := bd_of hf
              refine r_Vv (pc := 108) (ws' := [((q 0), ob 9 [.int (M_thrown v18), .ref (q 1), .int (M_taped (M_tp v18)), .ref (q 2), .ref (q 3), .ref (q 4), .ref (q 5), .ref (q 6), .ref (q 7), .ref (q 8), .ref (q 9), .ref (q 10), .ref (q 11), .ref (q 12), .ref (q 13), .ref (q 14), .int (M_lines (M_rd v18)), .int (M_size (M_rd v18)), .int (M_at (M_rd v18)), .int (M_place (M_rd v18)), .int (M_sort (M_rd v18)), .int (M_value (M_rd v18)), .int (M_fault (M_rd v18)), .int (M_faultPlace (M_rd v18)), .int (M_lastFault (M_lf v18)), .int (M_lastPlace (M_lf v18)), .ref (q 15), .ref (q 16), .ref (q 17), .ref (q 18), .int (M_hasImage (M_im v18)), .int (M_spanNow (M_rn v18)), .ref (q 19), .int (M_placeThen (M_rn v18)), .int (M_alonePlace (M_al v18)), .int (M_aloneSteps (M_al v18)), .int (M_aloneOut (M_al v18)), .ref (q 20), .ref (q 21), .ref (q 22), .ref (q 23), .int (M_shotAlarm (M_ex v18)), .int (M_drawn (M_ex v18))]), ((q 1), aI K 700 (M_tape (M_tp v18))), ((q 2), aI K 20 (M_number (M_cd v18))), ((q 3), aZ K 5 (M_isTold (M_rd v18))), ((q 4), aI K 80 (M_codeSort (M_cd v18))), ((q 5), aI K 80 (M_codeA (M_cd v18))), ((q 6), aI K 80 (M_codeB (M_cd v18))), ((q 7), aI K 80 (M_codeC (M_cd v18))), ((q 8), aI K 80 (M_codeName (M_cd v18))), ((q 9), aI K 80 (M_codePlace (M_cd v18))), ((q 10), aI K 80 (M_codeTo (M_cd v18))), ((q 11), aI K 280 (M_labelName (M_cd v18))), ((q 12), aI K 280 (M_labelAt (M_cd v18))), ((q 13), aI K 64 (M_data (M_cd v18))), ((q 14), aZ K 32 (M_hasData (M_rd v18))), ((q 15), aI K 314 (M_s (M_rn v18))), ((q 16), aI K 314 (M_aside (M_ex v18))), ((q 17), aI K 314 (M_further (M_ex v18))), ((q 18), aI K 314 (M_image (M_im v18))), ((q 19), aI K 3 (M_sizeNow (M_rn v18))), ((q 20), aI K 8 (M_aloneRegister (M_al v18))), ((q 21), aI K 4 (M_aloneReal (M_al v18))), ((q 22), aI K 32 (M_aloneMemory (M_al v18))), ((q 23), aI K 999 (M_aloneOutput (M_al v18)))]) cx [] [] [0, 1, 2, 3, 4, 5, 6, 7, 8, 9, 10, 11, 12, 13, 14, 15, 16, 17, 18, 19, 20, 21, 22, 23] (m_M_sticks l D K q ((M_tp v), (M_rd v), (M_lf v), (M_cd v), (f17, (M_spanNow (M_rn v)), (M_sizeNow (M_rn v)), (M_placeThen (M_rn v))), (M_ex v), (M_im v), (M_al v), (0 : Int32)) hc19) yv_X10_sticks wd_1667 ⟨rfl, rfl⟩ (by decide) rfl rfl rfl (by decide) 0 rfl rfl rfl (Nat.le_of_ble_eq_true rfl) dX10_stick_108 ?_
              refine r_iconst (pc := 111) cx dX10_stick_111 ic_1 ?_
              cases hf
              exact r_zret (pc := 112) cx (Or.inr rfl) rfl rfl dX10_stick_112
            refine r_if_eq (pc := 70) (tgt := 90) cx dX10_stick_70 (by decide) (fun h20 => ?_) (fun h20 => ?_)
            · have hf := ifp h20 hf
              refine r_aload_n (pc := 90) cx dX10_stick_90 1 rfl ?_
              refine r_get (pc := 91) cx cf_X10 0 26 rfl (by decide) rfl wd_1342 dX10_stick_91 ?_
              refine r_bipush (pc := 94) cx dX10_stick_94 bp_70 ?_
              refine r_iload (pc := 96) cx dX10_stick_96 0 rfl ?_
              refine r_iadd (pc := 98) cx dX10_stick_98 ?_
              obtain ⟨h21, hf⟩ := chk_of hf
              refine r_iald (pc := 99) cx 15 rfl h21 dX10_stick_99 ?_
              refine r_iconst (pc := 100) cx dX10_stick_100 ic_1 ?_
              refine r_iload_n (pc := 101) cx dX10_stick_101 4 rfl ?_
              refine r_ishl (pc := 102) cx dX10_stick_102 ?_
              refine r_iconst (pc := 103) cx dX10_stick_103 ic_m1 ?_
              refine r_ixor (pc := 104) cx dX10_stick_104 ?_
              refine r_iand (pc := 105) cx dX10_stick_105 ?_
              refine r_loc (loc' := [(0, .ref (q 0))]) [1] rfl ?_
              exact hJ15 _ hf
            · have hf := ifn h20 hf
              refine r_aload_n (pc := 73) cx dX10_stick_73 1 rfl ?_
              refine r_get (pc := 74) cx cf_X10 0 26 rfl (by decide) rfl wd_1342 dX10_stick_74 ?_
              refine r_bipush (pc := 77) cx dX10_stick_77 bp_70 ?_
              refine r_iload (pc := 79) cx dX10_stick_79 0 rfl ?_
              refine r_iadd (pc := 81) cx dX10_stick_81 ?_
              obtain ⟨h22, hf⟩ := chk_of hf
              refine r_iald (pc := 82) cx 15 rfl h22 dX10_stick_82 ?_
              refine r_iconst (pc := 83) cx dX10_stick_83 ic_1 ?_
              refine r_iload_n (pc := 84) cx dX10_stick_84 4 rfl ?_
              refine r_ishl (pc := 85) cx dX10_stick_85 ?_
              refine r_ior (pc := 86) cx dX10_stick_86 ?_
              refine r_goto (pc := 87) (tgt := 106) cx dX10_stick_87 (by decide) ?_
              refine r_loc (loc' := [(0, .ref (q 0))]) [1] rfl ?_
              exact hJ15 _ hf
          · have hf := ifp h7 hf
            refine r_iconst (pc := 33) cx dX10_stick_33 ic_0 ?_
            cases hf
            exact r_zret (pc := 34) cx (Or.inl rfl) rfl rfl dX10_stick_34
theorem yv_X10_stick : YV yX10_stick cX10_stick 6 (some .boolean) 4 := ⟨⟨by decide +kernel, by decide +kernel, by decide +kernel⟩, wd_1713, wd_102, wd_1711, wd_1712⟩
def f_M_bits_L4  (k4_20 : Int32 → Option (Int32)) : Nat → Int32 → Int32 → Option (Int32)
  | 0, _, _ => none
  | n4 + 1, x1, x2 =>
    (if x2 = (0 : Int32) then (k4_20 x1) else (nm (x1 + (1 : Int32)) fun (x5 : Int32) => (nm (x2 &&& (x2 - (1 : Int32))) fun (x6 : Int32) => (f_M_bits_L4 k4_20 n4 x5 x6))))
def f_M_bits (a0 : Int32) : Option (Int32) :=
  (f_M_bits_L4 (fun (x3 : Int32) => (some x3)) LF (0 : Int32) a0)
abbrev rm_M_bits : Room := { frames := 0, cells := 0, slots := 0, locals := 0 }
set_option maxRecDepth 100000 in
set_option maxHeartbeats 4000000 in
theorem m_M_bits (l : Launch) (D : va_G) (K : Nat → ClassId) (a0 : Int32) {r_ : Int32} (hf : f_M_bits a0 = some r_) : MI l yX10_bits cX10_bits 3 (some .int) rm_M_bits D K [.int a0] ([]) r_ ([]) := by
  refine MI_of (loc0 := [(0, .int a0)]) (by decide +kernel) rfl (Nat.le_of_ble_eq_true rfl) ?_
  intro p e s m args below meth c A cx
  unfold f_M_bits at hf
  refine r_ws (ws' := []) rfl ?_
  refine r_iconst (pc := 0) cx dX10_bits_0 ic_0 ?_
  refine r_istore_n (pc := 1) (loc' := [(1, .int (0 : Int32)), (0, .int a0)]) cx dX10_bits_1 rfl (by decide) rfl ?_
  refine r_iload_n (pc := 2) cx dX10_bits_2 1 rfl ?_
  refine r_istore_n (pc := 3) (loc' := [(2, .int a0), (1, .int (0 : Int32)), (0, .int a0)]) cx dX10_bits_3 rfl (by decide) rfl ?_
  have hL4 : ∀ (k4_20 : Int32 → Option (Int32)), (∀ (x3 : Int32), k4_20 x3 = some r_ → WW p l e rm_M_bits s m args below meth c D A 3 0 0 (MQ below (QI D K A r_ ([])) args s 0 0 A) ([]) ([(1, .int x3)]) ([]) 20) → ∀ (n4 : Nat) (x1 : Int32) (x2 : Int32), f_M_bits_L4 k4_20 n4 x1 x2 = some r_ → WW p l e rm_M_bits s m args below meth c D A 3 0 0 (MQ below (QI D K A r_ ([])) args s 0 0 A) ([]) ([(1, .int x1), (2, .int x2)]) ([]) 4 := by
    intro k4_20 hk4_20 n4
    induction n4 with
    | zero => intro x1 x2 hf; exact (nomatch (show (none : Option (Int32)) = some _ from hf))
    | succ n4 ih4 =>
      intro x1 x2 hf
      rw [f_M_bits_L4] at hf
      refine r_iload_n (pc := 4) cx dX10_bits_4 1 rfl ?_
      refine r_if_eq (pc := 5) (tgt := 20) cx dX10_bits_5 (by decide) (fun h4 => ?_) (fun h4 => ?_)
      · have hf := ifp h4 hf
        refine r_loc (loc' := [(1, .int x1)]) [0] rfl ?_
        exact hk4_20 _ hf
      · have hf := ifn h4 hf
        obtain ⟨x5, ex5, hf⟩ := nm_of hf
        refine r_iinc (pc := 8) (loc' := [(1, .int x5), (2, .int x2)]) (v := x5) cx dX10_bits_8 0 rfl ((congrArg (fun z => x1 + z) ic_1).trans ex5.symm) (by decide) rfl ?_
        refine r_iload_n (pc := 11) cx dX10_bits_11 1 rfl ?_
        refine r_iload_n (pc := 12) cx dX10_bits_12 1 rfl ?_
        refine r_iconst (pc := 13) cx dX10_bits_13 ic_1 ?_
        refine r_isub (pc := 14) cx dX10_bits_14 ?_
        refine r_iand (pc := 15) cx dX10_bits_15 ?_
        obtain ⟨x6, ex6, hf⟩ := nm_of hf
        refine r_nm ex6 ?_
        refine r_istore_n (pc := 16) (loc' := [(2, .int x6), (1, .int x5)]) cx dX10_bits_16 rfl (by decide) rfl ?_
        refine r_goto (pc := 17) (tgt := 4) cx dX10_bits_17 (by decide) ?_
        refine r_loc (loc' := [(1, .int x5), (2, .int x6)]) [1, 0] rfl ?_
        exact ih4 _ _ hf
  refine r_loc (loc' := [(1, .int (0 : Int32)), (2, .int a0)]) [1, 0] rfl ?_
  refine hL4 _ (fun x3 hf => ?_) _ _ _ hf
  refine r_iload_n (pc := 20) cx dX10_bits_20 0 rfl ?_
  cases hf
  exact r_iret (pc := 21) cx rfl rfl dX10_bits_21
theorem ys_X10_bits : YS yX10_bits cX10_bits 3 (some .int) 1 := ⟨⟨by decide +kernel, by decide +kernel, by decide +kernel⟩, wd_1724, wd_102, wd_1723⟩
def f_M_stuck_L4 (v : T_M) (k4_31 : Int32 → Option (Int32)) : Nat → Int32 → Int32 → Option (Int32)
  | 0, _, _ => none
  | n4 + 1, x1, x2 =>
    (if (16 : Int32) ≤ x2 then (k4_31 x1) else (if ix ((54 : Int32) + x2) 314 then (bd (f_M_bits ((M_s (M_rn v)) (((54 : Int32) + x2)).toNatClampNeg)) fun (r6 : Int32) => (nm (x1 + r6) fun (x8 : Int32) => (nm (x2 + (1 : Int32)) fun (x9 : Int32) => (f_M_stuck_L4 v k4_31 n4 x8 x9)))) else none))
def f_M_stuck (v : T_M) : Option (Int32) :=
  (f_M_stuck_L4 v (fun (x3 : Int32) => (some x3)) LF (0 : Int32) (0 : Int32))
abbrev rm_M_stuck : Room := { frames := 1, cells := 0, slots := 0, locals := 22 }
set_option maxRecDepth 100000 in
set_option maxHeartbeats 4000000 in
theorem m_M_stuck (l : Launch) (D : va_G) (K : Nat → ClassId) (q : Nat → Nat) (v : T_M) {r_ : Int32} (hf : f_M_stuck v = some r_) : MI l yX10_stuck cX10_stuck 3 (some .int) rm_M_stuck D K [.ref (q 0)] (cl_M K q v) r_ (cl_M K q v) := by
  refine MI_of (loc0 := [(0, .ref (q 0))]) (by decide +kernel) rfl (Nat.le_of_ble_eq_true rfl) ?_
  intro p e s m args below meth c A cx
  unfold f_M_stuck at hf
  refine r_ws (ws' := [((q 0), ob 9 [.int (M_thrown v), .ref (q 1), .int (M_taped (M_tp v)), .ref (q 2), .ref (q 3), .ref (q 4), .ref (q 5), .ref (q 6), .ref (q 7), .ref (q 8), .ref (q 9), .ref (q 10), .ref (q 11), .ref (q 12), .ref (q 13), .ref (q 14), .int (M_lines (M_rd v)), .int (M_size (M_rd v)), .int (M_at (M_rd v)), .int (M_place (M_rd v)), .int (M_sort (M_rd v)), .int (M_value (M_rd v)), .int (M_fault (M_rd v)), .int (M_faultPlace (M_rd v)), .int (M_lastFault (M_lf v)), .int (M_lastPlace (M_lf v)), .ref (q 15), .ref (q 16), .ref (q 17), .ref (q 18), .int (M_hasImage (M_im v)), .int (M_spanNow (M_rn v)), .ref (q 19), .int (M_placeThen (M_rn v)), .int (M_alonePlace (M_al v)), .int (M_aloneSteps (M_al v)), .int (M_aloneOut (M_al v)), .ref (q 20), .ref (q 21), .ref (q 22), .ref (q 23), .int (M_shotAlarm (M_ex v)), .int (M_drawn (M_ex v))]), ((q 1), aI K 700 (M_tape (M_tp v))), ((q 2), aI K 20 (M_number (M_cd v))), ((q 3), aZ K 5 (M_isTold (M_rd v))), ((q 4), aI K 80 (M_codeSort (M_cd v))), ((q 5), aI K 80 (M_codeA (M_cd v))), ((q 6), aI K 80 (M_codeB (M_cd v))), ((q 7), aI K 80 (M_codeC (M_cd v))), ((q 8), aI K 80 (M_codeName (M_cd v))), ((q 9), aI K 80 (M_codePlace (M_cd v))), ((q 10), aI K 80 (M_codeTo (M_cd v))), ((q 11), aI K 280 (M_labelName (M_cd v))), ((q 12), aI K 280 (M_labelAt (M_cd v))), ((q 13), aI K 64 (M_data (M_cd v))), ((q 14), aZ K 32 (M_hasData (M_rd v))), ((q 15), aI K 314 (M_s (M_rn v))), ((q 16), aI K 314 (M_aside (M_ex v))), ((q 17), aI K 314 (M_further (M_ex v))), ((q 18), aI K 314 (M_image (M_im v))), ((q 19), aI K 3 (M_sizeNow (M_rn v))), ((q 20), aI K 8 (M_aloneRegister (M_al v))), ((q 21), aI K 4 (M_aloneReal (M_al v))), ((q 22), aI K 32 (M_aloneMemory (M_al v))), ((q 23), aI K 999 (M_aloneOutput (M_al v)))]) rfl ?_
  refine r_iconst (pc := 0) cx dX10_stuck_0 ic_0 ?_
  refine r_istore_n (pc := 1) (loc' := [(1, .int (0 : Int32)), (0, .ref (q 0))]) cx dX10_stuck_1 rfl (by decide) rfl ?_
  refine r_iconst (pc := 2) cx dX10_stuck_2 ic_0 ?_
  refine r_istore_n (pc := 3) (loc' := [(2, .int (0 : Int32)), (1, .int (0 : Int32)), (0, .ref (q 0))]) cx dX10_stuck_3 rfl (by decide) rfl ?_
  have hL4 : ∀ (k4_31 : Int32 → Option (Int32)), (∀ (x3 : Int32), k4_31 x3 = some r_ → WW p l e rm_M_stuck s m args below meth c D A 3 0 0 (MQ below (QI D K A r_ (cl_M K q v)) args s 0 0 A) ([((q 0), ob 9 [.int (M_thrown v), .ref (q 1), .int (M_taped (M_tp v)), .ref (q 2), .ref (q 3), .ref (q 4), .ref (q 5), .ref (q 6), .ref (q 7), .ref (q 8), .ref (q 9), .ref (q 10), .ref (q 11), .ref (q 12), .ref (q 13), .ref (q 14), .int (M_lines (M_rd v)), .int (M_size (M_rd v)), .int (M_at (M_rd v)), .int (M_place (M_rd v)), .int (M_sort (M_rd v)), .int (M_value (M_rd v)), .int (M_fault (M_rd v)), .int (M_faultPlace (M_rd v)), .int (M_lastFault (M_lf v)), .int (M_lastPlace (M_lf v)), .ref (q 15), .ref (q 16), .ref (q 17), .ref (q 18), .int (M_hasImage (M_im v)), .int (M_spanNow (M_rn v)), .ref (q 19), .int (M_placeThen (M_rn v)), .int (M_alonePlace (M_al v)), .int (M_aloneSteps (M_al v)), .int (M_aloneOut (M_al v)), .ref (q 20), .ref (q 21), .ref (q 22), .ref (q 23), .int (M_shotAlarm (M_ex v)), .int (M_drawn (M_ex v))]), ((q 1), aI K 700 (M_tape (M_tp v))), ((q 2), aI K 20 (M_number (M_cd v))), ((q 3), aZ K 5 (M_isTold (M_rd v))), ((q 4), aI K 80 (M_codeSort (M_cd v))), ((q 5), aI K 80 (M_codeA (M_cd v))), ((q 6), aI K 80 (M_codeB (M_cd v))), ((q 7), aI K 80 (M_codeC (M_cd v))), ((q 8), aI K 80 (M_codeName (M_cd v))), ((q 9), aI K 80 (M_codePlace (M_cd v))), ((q 10), aI K 80 (M_codeTo (M_cd v))), ((q 11), aI K 280 (M_labelName (M_cd v))), ((q 12), aI K 280 (M_labelAt (M_cd v))), ((q 13), aI K 64 (M_data (M_cd v))), ((q 14), aZ K 32 (M_hasData (M_rd v))), ((q 15), aI K 314 (M_s (M_rn v))), ((q 16), aI K 314 (M_aside (M_ex v))), ((q 17), aI K 314 (M_further (M_ex v))), ((q 18), aI K 314 (M_image (M_im v))), ((q 19), aI K 3 (M_sizeNow (M_rn v))), ((q 20), aI K 8 (M_aloneRegister (M_al v))), ((q 21), aI K 4 (M_aloneReal (M_al v))), ((q 22), aI K 32 (M_aloneMemory (M_al v))), ((q 23), aI K 999 (M_aloneOutput (M_al v)))]) ([(1, .int x3)]) ([]) 31) → ∀ (n4 : Nat) (x1 : Int32) (x2 : Int32), f_M_stuck_L4 v k4_31 n4 x1 x2 = some r_ → WW p l e rm_M_stuck s m args below meth c D A 3 0 0 (MQ below (QI D K A r_ (cl_M K q v)) args s 0 0 A) ([((q 0), ob 9 [.int (M_thrown v), .ref (q 1), .int (M_taped (M_tp v)), .ref (q 2), .ref (q 3), .ref (q 4), .ref (q 5), .ref (q 6), .ref (q 7), .ref (q 8), .ref (q 9), .ref (q 10), .ref (q 11), .ref (q 12), .ref (q 13), .ref (q 14), .int (M_lines (M_rd v)), .int (M_size (M_rd v)), .int (M_at (M_rd v)), .int (M_place (M_rd v)), .int (M_sort (M_rd v)), .int (M_value (M_rd v)), .int (M_fault (M_rd v)), .int (M_faultPlace (M_rd v)), .int (M_lastFault (M_lf v)), .int (M_lastPlace (M_lf v)), .ref (q 15), .ref (q 16), .ref (q 17), .ref (q 18), .int (M_hasImage (M_im v)), .int (M_spanNow (M_rn v)), .ref (q 19), .int (M_placeThen (M_rn v)), .int (M_alonePlace (M_al v)), .int (M_aloneSteps (M_al v)), .int (M_aloneOut (M_al v)), .ref (q 20), .ref (q 21), .ref (q 22), .ref (q 23), .int (M_shotAlarm (M_ex v)), .int (M_drawn (M_ex v))]), ((q 1), aI K 700 (M_tape (M_tp v))), ((q 2), aI K 20 (M_number (M_cd v))), ((q 3), aZ K 5 (M_isTold (M_rd v))), ((q 4), aI K 80 (M_codeSort (M_cd v))), ((q 5), aI K 80 (M_codeA (M_cd v))), ((q 6), aI K 80 (M_codeB (M_cd v))), ((q 7), aI K 80 (M_codeC (M_cd v))), ((q 8), aI K 80 (M_codeName (M_cd v))), ((q 9), aI K 80 (M_codePlace (M_cd v))), ((q 10), aI K 80 (M_codeTo (M_cd v))), ((q 11), aI K 280 (M_labelName (M_cd v))), ((q 12), aI K 280 (M_labelAt (M_cd v))), ((q 13), aI K 64 (M_data (M_cd v))), ((q 14), aZ K 32 (M_hasData (M_rd v))), ((q 15), aI K 314 (M_s (M_rn v))), ((q 16), aI K 314 (M_aside (M_ex v))), ((q 17), aI K 314 (M_further (M_ex v))), ((q 18), aI K 314 (M_image (M_im v))), ((q 19), aI K 3 (M_sizeNow (M_rn v))), ((q 20), aI K 8 (M_aloneRegister (M_al v))), ((q 21), aI K 4 (M_aloneReal (M_al v))), ((q 22), aI K 32 (M_aloneMemory (M_al v))), ((q 23), aI K 999 (M_aloneOutput (M_al v)))]) ([(0, .ref (q 0)), (1, .int x1), (2, .int x2)]) ([]) 4 := by
    intro k4_31 hk4_31 n4
    induction n4 with
    | zero => intro x1 x2 hf; exact (nomatch (show (none : Option (Int32)) = some _ from hf))
    | succ n4 ih4 =>
      intro x1 x2 hf
      rw [f_M_stuck_L4] at hf
      refine r_iload_n (pc := 4) cx dX10_stuck_4 2 rfl ?_
      refine r_bipush (pc := 5) cx dX10_stuck_5 bp_16 ?_
      refine r_icmp_ge (pc := 7) (tgt := 31) cx dX10_stuck_7 (by decide) (fun h4 => ?_) (fun h4 => ?_)
      · have hf := ifp h4 hf
        refine r_loc (loc' := [(1, .int x1)]) [1] rfl ?_
        exact hk4_31 _ hf
      · have hf := ifn h4 hf
        refine r_iload_n (pc := 10) cx dX10_stuck_10 1 rfl ?_
        refine r_aload_n (pc := 11) cx dX10_stuck_11 0 rfl ?_
        refine r_get (pc := 12) cx cf_X10 0 26 rfl (by decide) rfl wd_1342 dX10_stuck_12 ?_
        refine r_bipush (pc := 15) cx dX10_stuck_15 bp_54 ?_
        refine r_iload_n (pc := 17) cx dX10_stuck_17 2 rfl ?_
        refine r_iadd (pc := 18) cx dX10_stuck_18 ?_
        obtain ⟨h5, hf⟩ := chk_of hf
        refine r_iald (pc := 19) cx 15 rfl h5 dX10_stuck_19 ?_
        obtain ⟨r6, hc7, hf⟩ := bd_of hf
        refine r_Si (pc := 20) (ws' := [((q 0), ob 9 [.int (M_thrown v), .ref (q 1), .int (M_taped (M_tp v)), .ref (q 2), .ref (q 3), .ref (q 4), .ref (q 5), .ref (q 6), .ref (q 7), .ref (q 8), .ref (q 9), .ref (q 10), .ref (q 11), .ref (q 12), .ref (q 13), .ref (q 14), .int (M_lines (M_rd v)), .int (M_size (M_rd v)), .int (M_at (M_rd v)), .int (M_place (M_rd v)), .int (M_sort (M_rd v)), .int (M_value (M_rd v)), .int (M_fault (M_rd v)), .int (M_faultPlace (M_rd v)), .int (M_lastFault (M_lf v)), .int (M_lastPlace (M_lf v)), .ref (q 15), .ref (q 16), .ref (q 17), .ref (q 18), .int (M_hasImage (M_im v)), .int (M_spanNow (M_rn v)), .ref (q 19), .int (M_placeThen (M_rn v)), .int (M_alonePlace (M_al v)), .int (M_aloneSteps (M_al v)), .int (M_aloneOut (M_al v)), .ref (q 20), .ref (q 21), .ref (q 22), .ref (q 23), .int (M_shotAlarm (M_ex v)), .int (M_drawn (M_ex v))]), ((q 1), aI K 700 (M_tape (M_tp v))), ((q 2), aI K 20 (M_number (M_cd v))), ((q 3), aZ K 5 (M_isTold (M_rd v))), ((q 4), aI K 80 (M_codeSort (M_cd v))), ((q 5), aI K 80 (M_codeA (M_cd v))), ((q 6), aI K 80 (M_codeB (M_cd v))), ((q 7), aI K 80 (M_codeC (M_cd v))), ((q 8), aI K 80 (M_codeName (M_cd v))), ((q 9), aI K 80 (M_codePlace (M_cd v))), ((q 10), aI K 80 (M_codeTo (M_cd v))), ((q 11), aI K 280 (M_labelName (M_cd v))), ((q 12), aI K 280 (M_labelAt (M_cd v))), ((q 13), aI K 64 (M_data (M_cd v))), ((q 14), aZ K 32 (M_hasData (M_rd v))), ((q 15), aI K 314 (M_s (M_rn v))), ((q 16), aI K 314 (M_aside (M_ex v))), ((q 17), aI K 314 (M_further (M_ex v))), ((q 18), aI K 314 (M_image (M_im v))), ((q 19), aI K 3 (M_sizeNow (M_rn v))), ((q 20), aI K 8 (M_aloneRegister (M_al v))), ((q 21), aI K 4 (M_aloneReal (M_al v))), ((q 22), aI K 32 (M_aloneMemory (M_al v))), ((q 23), aI K 999 (M_aloneOutput (M_al v)))]) cx [.int ((M_s (M_rn v)) (((54 : Int32) + x2)).toNatClampNeg)] [.int x1] [] (m_M_bits l D K ((M_s (M_rn v)) (((54 : Int32) + x2)).toNatClampNeg) hc7) ys_X10_bits wd_1722 ⟨rfl, rfl⟩ (by decide) rfl rfl rfl (by decide) rfl (Nat.le_of_ble_eq_true rfl) dX10_stuck_20 ?_
        refine r_iadd (pc := 23) cx dX10_stuck_23 ?_
        obtain ⟨x8, ex8, hf⟩ := nm_of hf
        refine r_nm ex8 ?_
        refine r_istore_n (pc := 24) (loc' := [(1, .int x8), (0, .ref (q 0)), (2, .int x2)]) cx dX10_stuck_24 rfl (by decide) rfl ?_
        obtain ⟨x9, ex9, hf⟩ := nm_of hf
        refine r_iinc (pc := 25) (loc' := [(2, .int x9), (1, .int x8), (0, .ref (q 0))]) (v := x9) cx dX10_stuck_25 2 rfl ((congrArg (fun z => x2 + z) ic_1).trans ex9.symm) (by decide) rfl ?_
        refine r_goto (pc := 28) (tgt := 4) cx dX10_stuck_28 (by decide) ?_
        refine r_loc (loc' := [(0, .ref (q 0)), (1, .int x8), (2, .int x9)]) [2, 1, 0] rfl ?_
        exact ih4 _ _ hf
  refine r_loc (loc' := [(0, .ref (q 0)), (1, .int (0 : Int32)), (2, .int (0 : Int32))]) [2, 1, 0] rfl ?_
  refine hL4 _ (fun x3 hf => ?_) _ _ _ hf
  refine r_iload_n (pc := 31) cx dX10_stuck_31 0 rfl ?_
  cases hf
  exact r_iret (pc := 32) cx rfl rfl dX10_stuck_32
theorem yv_X10_stuck : YV yX10_stuck cX10_stuck 3 (some .int) 0 := ⟨⟨by decide +kernel, by decide +kernel, by decide +kernel⟩, wd_1721, wd_102, wd_1720, wd_76⟩
def f_M_loose_L12  (k12_44 : (Nat → Int32) → Option (Int32 × T_M)) : Nat → Int32 → (Nat → Int32) → Option (Int32 × T_M)
  | 0, _, _ => none
  | n12 + 1, x3, f4 =>
    (if (16 : Int32) ≤ x3 then (k12_44 f4) else (if ix ((54 : Int32) + x3) 314 then (nm (upd f4 (((54 : Int32) + x3)).toNatClampNeg (0 : Int32)) fun (f8 : Nat → Int32) => (if ix ((70 : Int32) + x3) 314 then (nm (upd f8 (((70 : Int32) + x3)).toNatClampNeg (0 : Int32)) fun (f10 : Nat → Int32) => (nm (x3 + (1 : Int32)) fun (x11 : Int32) => (f_M_loose_L12 k12_44 n12 x11 f10))) else none)) else none))
def f_M_loose (v : T_M) : Option (Int32 × T_M) :=
  (bd (f_M_stuck ((M_tp v), (M_rd v), (M_lf v), (M_cd v), (M_rn v), (M_ex v), (M_im v), (M_al v), (0 : Int32))) fun (r1 : Int32) => (f_M_loose_L12 (fun (f5 : (Nat → Int32)) => (some (r1, ((M_tp v), (M_rd v), (M_lf v), (M_cd v), (f5, (M_spanNow (M_rn v)), (M_sizeNow (M_rn v)), (M_placeThen (M_rn v))), (M_ex v), (M_im v), (M_al v), (0 : Int32))))) LF (0 : Int32) (M_s (M_rn v))))
abbrev rm_M_loose : Room := { frames := 2, cells := 0, slots := 0, locals := 44 }
set_option maxRecDepth 100000 in
set_option maxHeartbeats 4000000 in
theorem m_M_loose (l : Launch) (D : va_G) (K : Nat → ClassId) (q : Nat → Nat) (v : T_M) {r_ : Int32} {o_v : T_M} (hf : f_M_loose v = some (r_, o_v)) : MI l yX10_loose cX10_loose 3 (some .int) rm_M_loose D K [.ref (q 0)] (cl_M K q v) r_ (cl_M K q o_v) := by
  refine MI_of (loc0 := [(0, .ref (q 0))]) (by decide +kernel) rfl (Nat.le_of_ble_eq_true rfl) ?_
  intro p e s m args below meth c A cx
  unfold f_M_loose at hf
  refine r_ws (ws' := [((q 0), ob 9 [.int (M_thrown v), .ref (q 1), .int (M_taped (M_tp v)), .ref (q 2), .ref (q 3), .ref (q 4), .ref (q 5), .ref (q 6), .ref (q 7), .ref (q 8), .ref (q 9), .ref (q 10), .ref (q 11), .ref (q 12), .ref (q 13), .ref (q 14), .int (M_lines (M_rd v)), .int (M_size (M_rd v)), .int (M_at (M_rd v)), .int (M_place (M_rd v)), .int (M_sort (M_rd v)), .int (M_value (M_rd v)), .int (M_fault (M_rd v)), .int (M_faultPlace (M_rd v)), .int (M_lastFault (M_lf v)), .int (M_lastPlace (M_lf v)), .ref (q 15), .ref (q 16), .ref (q 17), .ref (q 18), .int (M_hasImage (M_im v)), .int (M_spanNow (M_rn v)), .ref (q 19), .int (M_placeThen (M_rn v)), .int (M_alonePlace (M_al v)), .int (M_aloneSteps (M_al v)), .int (M_aloneOut (M_al v)), .ref (q 20), .ref (q 21), .ref (q 22), .ref (q 23), .int (M_shotAlarm (M_ex v)), .int (M_drawn (M_ex v))]), ((q 1), aI K 700 (M_tape (M_tp v))), ((q 2), aI K 20 (M_number (M_cd v))), ((q 3), aZ K 5 (M_isTold (M_rd v))), ((q 4), aI K 80 (M_codeSort (M_cd v))), ((q 5), aI K 80 (M_codeA (M_cd v))), ((q 6), aI K 80 (M_codeB (M_cd v))), ((q 7), aI K 80 (M_codeC (M_cd v))), ((q 8), aI K 80 (M_codeName (M_cd v))), ((q 9), aI K 80 (M_codePlace (M_cd v))), ((q 10), aI K 80 (M_codeTo (M_cd v))), ((q 11), aI K 280 (M_labelName (M_cd v))), ((q 12), aI K 280 (M_labelAt (M_cd v))), ((q 13), aI K 64 (M_data (M_cd v))), ((q 14), aZ K 32 (M_hasData (M_rd v))), ((q 15), aI K 314 (M_s (M_rn v))), ((q 16), aI K 314 (M_aside (M_ex v))), ((q 17), aI K 314 (M_further (M_ex v))), ((q 18), aI K 314 (M_image (M_im v))), ((q 19), aI K 3 (M_sizeNow (M_rn v))), ((q 20), aI K 8 (M_aloneRegister (M_al v))), ((q 21), aI K 4 (M_aloneReal (M_al v))), ((q 22), aI K 32 (M_aloneMemory (M_al v))), ((q 23), aI K 999 (M_aloneOutput (M_al v)))]) rfl ?_
  refine r_aload_n (pc := 0) cx dX10_loose_0 0 rfl ?_
  refine r_iconst (pc := 1) cx dX10_loose_1 ic_0 ?_
  refine r_putI (pc := 2) (ws' := [((q 0), ob 9 [.int (0 : Int32), .ref (q 1), .int (M_taped (M_tp v)), .ref (q 2), .ref (q 3), .ref (q 4), .ref (q 5), .ref (q 6), .ref (q 7), .ref (q 8), .ref (q 9), .ref (q 10), .ref (q 11), .ref (q 12), .ref (q 13), .ref (q 14), .int (M_lines (M_rd v)), .int (M_size (M_rd v)), .int (M_at (M_rd v)), .int (M_place (M_rd v)), .int (M_sort (M_rd v)), .int (M_value (M_rd v)), .int (M_fault (M_rd v)), .int (M_faultPlace (M_rd v)), .int (M_lastFault (M_lf v)), .int (M_lastPlace (M_lf v)), .ref (q 15), .ref (q 16), .ref (q 17), .ref (q 18), .int (M_hasImage (M_im v)), .int (M_spanNow (M_rn v)), .ref (q 19), .int (M_placeThen (M_rn v)), .int (M_alonePlace (M_al v)), .int (M_aloneSteps (M_al v)), .int (M_aloneOut (M_al v)), .ref (q 20), .ref (q 21), .ref (q 22), .ref (q 23), .int (M_shotAlarm (M_ex v)), .int (M_drawn (M_ex v))]), ((q 1), aI K 700 (M_tape (M_tp v))), ((q 2), aI K 20 (M_number (M_cd v))), ((q 3), aZ K 5 (M_isTold (M_rd v))), ((q 4), aI K 80 (M_codeSort (M_cd v))), ((q 5), aI K 80 (M_codeA (M_cd v))), ((q 6), aI K 80 (M_codeB (M_cd v))), ((q 7), aI K 80 (M_codeC (M_cd v))), ((q 8), aI K 80 (M_codeName (M_cd v))), ((q 9), aI K 80 (M_codePlace (M_cd v))), ((q 10), aI K 80 (M_codeTo (M_cd v))), ((q 11), aI K 280 (M_labelName (M_cd v))), ((q 12), aI K 280 (M_labelAt (M_cd v))), ((q 13), aI K 64 (M_data (M_cd v))), ((q 14), aZ K 32 (M_hasData (M_rd v))), ((q 15), aI K 314 (M_s (M_rn v))), ((q 16), aI K 314 (M_aside (M_ex v))), ((q 17), aI K 314 (M_further (M_ex v))), ((q 18), aI K 314 (M_image (M_im v))), ((q 19), aI K 3 (M_sizeNow (M_rn v))), ((q 20), aI K 8 (M_aloneRegister (M_al v))), ((q 21), aI K 4 (M_aloneReal (M_al v))), ((q 22), aI K 32 (M_aloneMemory (M_al v))), ((q 23), aI K 999 (M_aloneOutput (M_al v)))]) cx cf_X10 0 0 rfl (by decide) (Nat.le_of_ble_eq_true rfl) rfl pfd_I wd_1316 dX10_loose_2 rfl ?_
  refine r_aload_n (pc := 5) cx dX10_loose_5 0 rfl ?_
  obtain ⟨r1, hc2, hf⟩ := bd_of hf
  refine r_Vi (pc := 6) (ws' := [((q 0), ob 9 [.int (0 : Int32), .ref (q 1), .int (M_taped (M_tp v)), .ref (q 2), .ref (q 3), .ref (q 4), .ref (q 5), .ref (q 6), .ref (q 7), .ref (q 8), .ref (q 9), .ref (q 10), .ref (q 11), .ref (q 12), .ref (q 13), .ref (q 14), .int (M_lines (M_rd v)), .int (M_size (M_rd v)), .int (M_at (M_rd v)), .int (M_place (M_rd v)), .int (M_sort (M_rd v)), .int (M_value (M_rd v)), .int (M_fault (M_rd v)), .int (M_faultPlace (M_rd v)), .int (M_lastFault (M_lf v)), .int (M_lastPlace (M_lf v)), .ref (q 15), .ref (q 16), .ref (q 17), .ref (q 18), .int (M_hasImage (M_im v)), .int (M_spanNow (M_rn v)), .ref (q 19), .int (M_placeThen (M_rn v)), .int (M_alonePlace (M_al v)), .int (M_aloneSteps (M_al v)), .int (M_aloneOut (M_al v)), .ref (q 20), .ref (q 21), .ref (q 22), .ref (q 23), .int (M_shotAlarm (M_ex v)), .int (M_drawn (M_ex v))]), ((q 1), aI K 700 (M_tape (M_tp v))), ((q 2), aI K 20 (M_number (M_cd v))), ((q 3), aZ K 5 (M_isTold (M_rd v))), ((q 4), aI K 80 (M_codeSort (M_cd v))), ((q 5), aI K 80 (M_codeA (M_cd v))), ((q 6), aI K 80 (M_codeB (M_cd v))), ((q 7), aI K 80 (M_codeC (M_cd v))), ((q 8), aI K 80 (M_codeName (M_cd v))), ((q 9), aI K 80 (M_codePlace (M_cd v))), ((q 10), aI K 80 (M_codeTo (M_cd v))), ((q 11), aI K 280 (M_labelName (M_cd v))), ((q 12), aI K 280 (M_labelAt (M_cd v))), ((q 13), aI K 64 (M_data (M_cd v))), ((q 14), aZ K 32 (M_hasData (M_rd v))), ((q 15), aI K 314 (M_s (M_rn v))), ((q 16), aI K 314 (M_aside (M_ex v))), ((q 17), aI K 314 (M_further (M_ex v))), ((q 18), aI K 314 (M_image (M_im v))), ((q 19), aI K 3 (M_sizeNow (M_rn v))), ((q 20), aI K 8 (M_aloneRegister (M_al v))), ((q 21), aI K 4 (M_aloneReal (M_al v))), ((q 22), aI K 32 (M_aloneMemory (M_al v))), ((q 23), aI K 999 (M_aloneOutput (M_al v)))]) cx [] [] [0, 1, 2, 3, 4, 5, 6, 7, 8, 9, 10, 11, 12, 13, 14, 15, 16, 17, 18, 19, 20, 21, 22, 23] (m_M_stuck l D K q ((M_tp v), (M_rd v), (M_lf v), (M_cd v), (M_rn v), (M_ex v), (M_im v), (M_al v), (0 : Int32)) hc2) yv_X10_stuck wd_1718 ⟨rfl, rfl⟩ (by decide) rfl rfl rfl (by decide) 0 rfl rfl rfl (Nat.le_of_ble_eq_true rfl) dX10_loose_6 ?_
  refine r_istore_n (pc := 9) (loc' := [(1, .int r1), (0, .ref (q 0))]) cx dX10_loose_9 rfl (by decide) rfl ?_
  refine r_iconst (pc := 10) cx dX10_loose_10 ic_0 ?_
  refine r_istore_n (pc := 11) (loc' := [(2, .int (0 : Int32)), (1, .int r1), (0, .ref (q 0))]) cx dX10_loose_11 rfl (by decide) rfl ?_
  have hL12 : ∀ (k12_44 : (Nat → Int32) → Option (Int32 × T_M)), (∀ (f5 : (Nat → Int32)), k12_44 f5 = some (r_, o_v) → WW p l e rm_M_loose s m args below meth c D A 3 0 0 (MQ below (QI D K A r_ (cl_M K q o_v)) args s 0 0 A) ([((q 0), ob 9 [.int (0 : Int32), .ref (q 1), .int (M_taped (M_tp v)), .ref (q 2), .ref (q 3), .ref (q 4), .ref (q 5), .ref (q 6), .ref (q 7), .ref (q 8), .ref (q 9), .ref (q 10), .ref (q 11), .ref (q 12), .ref (q 13), .ref (q 14), .int (M_lines (M_rd v)), .int (M_size (M_rd v)), .int (M_at (M_rd v)), .int (M_place (M_rd v)), .int (M_sort (M_rd v)), .int (M_value (M_rd v)), .int (M_fault (M_rd v)), .int (M_faultPlace (M_rd v)), .int (M_lastFault (M_lf v)), .int (M_lastPlace (M_lf v)), .ref (q 15), .ref (q 16), .ref (q 17), .ref (q 18), .int (M_hasImage (M_im v)), .int (M_spanNow (M_rn v)), .ref (q 19), .int (M_placeThen (M_rn v)), .int (M_alonePlace (M_al v)), .int (M_aloneSteps (M_al v)), .int (M_aloneOut (M_al v)), .ref (q 20), .ref (q 21), .ref (q 22), .ref (q 23), .int (M_shotAlarm (M_ex v)), .int (M_drawn (M_ex v))]), ((q 1), aI K 700 (M_tape (M_tp v))), ((q 2), aI K 20 (M_number (M_cd v))), ((q 3), aZ K 5 (M_isTold (M_rd v))), ((q 4), aI K 80 (M_codeSort (M_cd v))), ((q 5), aI K 80 (M_codeA (M_cd v))), ((q 6), aI K 80 (M_codeB (M_cd v))), ((q 7), aI K 80 (M_codeC (M_cd v))), ((q 8), aI K 80 (M_codeName (M_cd v))), ((q 9), aI K 80 (M_codePlace (M_cd v))), ((q 10), aI K 80 (M_codeTo (M_cd v))), ((q 11), aI K 280 (M_labelName (M_cd v))), ((q 12), aI K 280 (M_labelAt (M_cd v))), ((q 13), aI K 64 (M_data (M_cd v))), ((q 14), aZ K 32 (M_hasData (M_rd v))), ((q 15), aI K 314 f5), ((q 16), aI K 314 (M_aside (M_ex v))), ((q 17), aI K 314 (M_further (M_ex v))), ((q 18), aI K 314 (M_image (M_im v))), ((q 19), aI K 3 (M_sizeNow (M_rn v))), ((q 20), aI K 8 (M_aloneRegister (M_al v))), ((q 21), aI K 4 (M_aloneReal (M_al v))), ((q 22), aI K 32 (M_aloneMemory (M_al v))), ((q 23), aI K 999 (M_aloneOutput (M_al v)))]) ([(1, .int r1)]) ([]) 44) → ∀ (n12 : Nat) (x3 : Int32) (f4 : (Nat → Int32)), f_M_loose_L12 k12_44 n12 x3 f4 = some (r_, o_v) → WW p l e rm_M_loose s m args below meth c D A 3 0 0 (MQ below (QI D K A r_ (cl_M K q o_v)) args s 0 0 A) ([((q 0), ob 9 [.int (0 : Int32), .ref (q 1), .int (M_taped (M_tp v)), .ref (q 2), .ref (q 3), .ref (q 4), .ref (q 5), .ref (q 6), .ref (q 7), .ref (q 8), .ref (q 9), .ref (q 10), .ref (q 11), .ref (q 12), .ref (q 13), .ref (q 14), .int (M_lines (M_rd v)), .int (M_size (M_rd v)), .int (M_at (M_rd v)), .int (M_place (M_rd v)), .int (M_sort (M_rd v)), .int (M_value (M_rd v)), .int (M_fault (M_rd v)), .int (M_faultPlace (M_rd v)), .int (M_lastFault (M_lf v)), .int (M_lastPlace (M_lf v)), .ref (q 15), .ref (q 16), .ref (q 17), .ref (q 18), .int (M_hasImage (M_im v)), .int (M_spanNow (M_rn v)), .ref (q 19), .int (M_placeThen (M_rn v)), .int (M_alonePlace (M_al v)), .int (M_aloneSteps (M_al v)), .int (M_aloneOut (M_al v)), .ref (q 20), .ref (q 21), .ref (q 22), .ref (q 23), .int (M_shotAlarm (M_ex v)), .int (M_drawn (M_ex v))]), ((q 1), aI K 700 (M_tape (M_tp v))), ((q 2), aI K 20 (M_number (M_cd v))), ((q 3), aZ K 5 (M_isTold (M_rd v))), ((q 4), aI K 80 (M_codeSort (M_cd v))), ((q 5), aI K 80 (M_codeA (M_cd v))), ((q 6), aI K 80 (M_codeB (M_cd v))), ((q 7), aI K 80 (M_codeC (M_cd v))), ((q 8), aI K 80 (M_codeName (M_cd v))), ((q 9), aI K 80 (M_codePlace (M_cd v))), ((q 10), aI K 80 (M_codeTo (M_cd v))), ((q 11), aI K 280 (M_labelName (M_cd v))), ((q 12), aI K 280 (M_labelAt (M_cd v))), ((q 13), aI K 64 (M_data (M_cd v))), ((q 14), aZ K 32 (M_hasData (M_rd v))), ((q 15), aI K 314 f4), ((q 16), aI K 314 (M_aside (M_ex v))), ((q 17), aI K 314 (M_further (M_ex v))), ((q 18), aI K 314 (M_image (M_im v))), ((q 19), aI K 3 (M_sizeNow (M_rn v))), ((q 20), aI K 8 (M_aloneRegister (M_al v))), ((q 21), aI K 4 (M_aloneReal (M_al v))), ((q 22), aI K 32 (M_aloneMemory (M_al v))), ((q 23), aI K 999 (M_aloneOutput (M_al v)))]) ([(0, .ref (q 0)), (1, .int r1), (2, .int x3)]) ([]) 12 := by
    intro k12_44 hk12_44 n12
    induction n12 with
    | zero => intro x3 f4 hf; exact (nomatch (show (none : Option (Int32 × T_M)) = some _ from hf))
    | succ n12 ih12 =>
      intro x3 f4 hf
      rw [f_M_loose_L12] at hf
      refine r_iload_n (pc := 12) cx dX10_loose_12 2 rfl ?_
      refine r_bipush (pc := 13) cx dX10_loose_13 bp_16 ?_
      refine r_icmp_ge (pc := 15) (tgt := 44) cx dX10_loose_15 (by decide) (fun h6 => ?_) (fun h6 => ?_)
      · have hf := ifp h6 hf
        refine r_loc (loc' := [(1, .int r1)]) [1] rfl ?_
        exact hk12_44 _ hf
      · have hf := ifn h6 hf
        refine r_aload_n (pc := 18) cx dX10_loose_18 0 rfl ?_
        refine r_get (pc := 19) cx cf_X10 0 26 rfl (by decide) rfl wd_1342 dX10_loose_19 ?_
        refine r_bipush (pc := 22) cx dX10_loose_22 bp_54 ?_
        refine r_iload_n (pc := 24) cx dX10_loose_24 2 rfl ?_
        refine r_iadd (pc := 25) cx dX10_loose_25 ?_
        refine r_iconst (pc := 26) cx dX10_loose_26 ic_0 ?_
        obtain ⟨h7, hf⟩ := chk_of hf
        obtain ⟨f8, ef8, hf⟩ := nm_of hf
        refine r_iast (pc := 27) (ws' := [((q 0), ob 9 [.int (0 : Int32), .ref (q 1), .int (M_taped (M_tp v)), .ref (q 2), .ref (q 3), .ref (q 4), .ref (q 5), .ref (q 6), .ref (q 7), .ref (q 8), .ref (q 9), .ref (q 10), .ref (q 11), .ref (q 12), .ref (q 13), .ref (q 14), .int (M_lines (M_rd v)), .int (M_size (M_rd v)), .int (M_at (M_rd v)), .int (M_place (M_rd v)), .int (M_sort (M_rd v)), .int (M_value (M_rd v)), .int (M_fault (M_rd v)), .int (M_faultPlace (M_rd v)), .int (M_lastFault (M_lf v)), .int (M_lastPlace (M_lf v)), .ref (q 15), .ref (q 16), .ref (q 17), .ref (q 18), .int (M_hasImage (M_im v)), .int (M_spanNow (M_rn v)), .ref (q 19), .int (M_placeThen (M_rn v)), .int (M_alonePlace (M_al v)), .int (M_aloneSteps (M_al v)), .int (M_aloneOut (M_al v)), .ref (q 20), .ref (q 21), .ref (q 22), .ref (q 23), .int (M_shotAlarm (M_ex v)), .int (M_drawn (M_ex v))]), ((q 1), aI K 700 (M_tape (M_tp v))), ((q 2), aI K 20 (M_number (M_cd v))), ((q 3), aZ K 5 (M_isTold (M_rd v))), ((q 4), aI K 80 (M_codeSort (M_cd v))), ((q 5), aI K 80 (M_codeA (M_cd v))), ((q 6), aI K 80 (M_codeB (M_cd v))), ((q 7), aI K 80 (M_codeC (M_cd v))), ((q 8), aI K 80 (M_codeName (M_cd v))), ((q 9), aI K 80 (M_codePlace (M_cd v))), ((q 10), aI K 80 (M_codeTo (M_cd v))), ((q 11), aI K 280 (M_labelName (M_cd v))), ((q 12), aI K 280 (M_labelAt (M_cd v))), ((q 13), aI K 64 (M_data (M_cd v))), ((q 14), aZ K 32 (M_hasData (M_rd v))), ((q 15), aI K 314 f8), ((q 16), aI K 314 (M_aside (M_ex v))), ((q 17), aI K 314 (M_further (M_ex v))), ((q 18), aI K 314 (M_image (M_im v))), ((q 19), aI K 3 (M_sizeNow (M_rn v))), ((q 20), aI K 8 (M_aloneRegister (M_al v))), ((q 21), aI K 4 (M_aloneReal (M_al v))), ((q 22), aI K 32 (M_aloneMemory (M_al v))), ((q 23), aI K 999 (M_aloneOutput (M_al v)))]) cx 15 rfl h7 dX10_loose_27 ef8 rfl ?_
        refine r_aload_n (pc := 28) cx dX10_loose_28 0 rfl ?_
        refine r_get (pc := 29) cx cf_X10 0 26 rfl (by decide) rfl wd_1342 dX10_loose_29 ?_
        refine r_bipush (pc := 32) cx dX10_loose_32 bp_70 ?_
        refine r_iload_n (pc := 34) cx dX10_loose_34 2 rfl ?_
        refine r_iadd (pc := 35) cx dX10_loose_35 ?_
        refine r_iconst (pc := 36) cx dX10_loose_36 ic_0 ?_
        obtain ⟨h9, hf⟩ := chk_of hf
        obtain ⟨f10, ef10, hf⟩ := nm_of hf
        refine r_iast (pc := 37) (ws' := [((q 0), ob 9 [.int (0 : Int32), .ref (q 1), .int (M_taped (M_tp v)), .ref (q 2), .ref (q 3), .ref (q 4), .ref (q 5), .ref (q 6), .ref (q 7), .ref (q 8), .ref (q 9), .ref (q 10), .ref (q 11), .ref (q 12), .ref (q 13), .ref (q 14), .int (M_lines (M_rd v)), .int (M_size (M_rd v)), .int (M_at (M_rd v)), .int (M_place (M_rd v)), .int (M_sort (M_rd v)), .int (M_value (M_rd v)), .int (M_fault (M_rd v)), .int (M_faultPlace (M_rd v)), .int (M_lastFault (M_lf v)), .int (M_lastPlace (M_lf v)), .ref (q 15), .ref (q 16), .ref (q 17), .ref (q 18), .int (M_hasImage (M_im v)), .int (M_spanNow (M_rn v)), .ref (q 19), .int (M_placeThen (M_rn v)), .int (M_alonePlace (M_al v)), .int (M_aloneSteps (M_al v)), .int (M_aloneOut (M_al v)), .ref (q 20), .ref (q 21), .ref (q 22), .ref (q 23), .int (M_shotAlarm (M_ex v)), .int (M_drawn (M_ex v))]), ((q 1), aI K 700 (M_tape (M_tp v))), ((q 2), aI K 20 (M_number (M_cd v))), ((q 3), aZ K 5 (M_isTold (M_rd v))), ((q 4), aI K 80 (M_codeSort (M_cd v))), ((q 5), aI K 80 (M_codeA (M_cd v))), ((q 6), aI K 80 (M_codeB (M_cd v))), ((q 7), aI K 80 (M_codeC (M_cd v))), ((q 8), aI K 80 (M_codeName (M_cd v))), ((q 9), aI K 80 (M_codePlace (M_cd v))), ((q 10), aI K 80 (M_codeTo (M_cd v))), ((q 11), aI K 280 (M_labelName (M_cd v))), ((q 12), aI K 280 (M_labelAt (M_cd v))), ((q 13), aI K 64 (M_data (M_cd v))), ((q 14), aZ K 32 (M_hasData (M_rd v))), ((q 15), aI K 314 f10), ((q 16), aI K 314 (M_aside (M_ex v))), ((q 17), aI K 314 (M_further (M_ex v))), ((q 18), aI K 314 (M_image (M_im v))), ((q 19), aI K 3 (M_sizeNow (M_rn v))), ((q 20), aI K 8 (M_aloneRegister (M_al v))), ((q 21), aI K 4 (M_aloneReal (M_al v))), ((q 22), aI K 32 (M_aloneMemory (M_al v))), ((q 23), aI K 999 (M_aloneOutput (M_al v)))]) cx 15 rfl h9 dX10_loose_37 ef10 rfl ?_
        obtain ⟨x11, ex11, hf⟩ := nm_of hf
        refine r_iinc (pc := 38) (loc' := [(2, .int x11), (0, .ref (q 0)), (1, .int r1)]) (v := x11) cx dX10_loose_38 2 rfl ((congrArg (fun z => x3 + z) ic_1).trans ex11.symm) (by decide) rfl ?_
        refine r_goto (pc := 41) (tgt := 12) cx dX10_loose_41 (by decide) ?_
        refine r_loc (loc' := [(0, .ref (q 0)), (1, .int r1), (2, .int x11)]) [1, 2, 0] rfl ?_
        exact ih12 _ _ hf
  refine r_loc (loc' := [(0, .ref (q 0)), (1, .int r1), (2, .int (0 : Int32))]) [2, 1, 0] rfl ?_
  refine hL12 _ (fun f5 hf => ?_) _ _ _ hf
  refine r_iload_n (pc := 44) cx dX10_loose_44 0 rfl ?_
  cases hf
  exact r_iret (pc := 45) cx rfl rfl dX10_loose_45
theorem yv_X10_loose : YV yX10_loose cX10_loose 3 (some .int) 0 := ⟨⟨by decide +kernel, by decide +kernel, by decide +kernel⟩, wd_1717, wd_102, wd_1715, wd_1716⟩
def f_M_thread (v : T_M) (a1 : Int32) (a2 : Int32) : Option (Int32 × T_M) :=
  (if a1 < (0 : Int32) then (some ((0 : Int32), ((M_tp v), (M_rd v), (M_lf v), (M_cd v), (M_rn v), (M_ex v), (M_im v), (M_al v), (1 : Int32)))) else (if a1 ≤ (1 : Int32) then (if a2 < (0 : Int32) then (some ((0 : Int32), ((M_tp v), (M_rd v), (M_lf v), (M_cd v), (M_rn v), (M_ex v), (M_im v), (M_al v), (2 : Int32)))) else (if a2 ≤ (3 : Int32) then (if a2 = (0 : Int32) then (if ix ((0 : Int32) + a1) 314 then (some (((M_s (M_rn v)) (((0 : Int32) + a1)).toNatClampNeg), ((M_tp v), (M_rd v), (M_lf v), (M_cd v), (M_rn v), (M_ex v), (M_im v), (M_al v), (0 : Int32)))) else none) else (if a2 = (1 : Int32) then (if ix ((2 : Int32) + a1) 314 then (some (((M_s (M_rn v)) (((2 : Int32) + a1)).toNatClampNeg), ((M_tp v), (M_rd v), (M_lf v), (M_cd v), (M_rn v), (M_ex v), (M_im v), (M_al v), (0 : Int32)))) else none) else (if a2 = (2 : Int32) then (bd (f_M_isHalted ((M_tp v), (M_rd v), (M_lf v), (M_cd v), (M_rn v), (M_ex v), (M_im v), (M_al v), (0 : Int32)) a1) fun (r10 : Int32) => (if r10 = (0 : Int32) then (some ((0 : Int32), ((M_tp v), (M_rd v), (M_lf v), (M_cd v), (M_rn v), (M_ex v), (M_im v), (M_al v), (0 : Int32)))) else (some ((1 : Int32), ((M_tp v), (M_rd v), (M_lf v), (M_cd v), (M_rn v), (M_ex v), (M_im v), (M_al v), (0 : Int32)))))) else (bd (f_M_why ((M_tp v), (M_rd v), (M_lf v), (M_cd v), (M_rn v), (M_ex v), (M_im v), (M_al v), (0 : Int32)) a1) fun (r8 : Int32) => (some (r8, ((M_tp v), (M_rd v), (M_lf v), (M_cd v), (M_rn v), (M_ex v), (M_im v), (M_al v), (0 : Int32)))))))) else (some ((0 : Int32), ((M_tp v), (M_rd v), (M_lf v), (M_cd v), (M_rn v), (M_ex v), (M_im v), (M_al v), (2 : Int32)))))) else (some ((0 : Int32), ((M_tp v), (M_rd v), (M_lf v), (M_cd v), (M_rn v), (M_ex v), (M_im v), (M_al v), (1 : Int32))))))
abbrev rm_M_thread : Room := { frames := 5, cells := 0, slots := 0, locals := 103 }
set_option maxRecDepth 100000 in
set_option maxHeartbeats 4000000 in
theorem m_M_thread (l : Launch) (D : va_G) (K : Nat → ClassId) (q : Nat → Nat) (v : T_M) (a1 : Int32) (a2 : Int32) {r_ : Int32} {o_v : T_M} (hf : f_M_thread v a1 a2 = some (r_, o_v)) : MI l yX10_thread cX10_thread 3 (some .int) rm_M_thread D K [.ref (q 0), .int a1, .int a2] (cl_M K q v) r_ (cl_M K q o_v) := by
  refine MI_of (loc0 := [(0, .ref (q 0)), (1, .int a1), (2, .int a2)]) (by decide +kernel) rfl (Nat.le_of_ble_eq_true rfl) ?_
  intro p e s m args below meth c A cx
  unfold f_M_thread at hf
  refine r_ws (ws' := [((q 0), ob 9 [.int (M_thrown v), .ref (q 1), .int (M_taped (M_tp v)), .ref (q 2), .ref (q 3), .ref (q 4), .ref (q 5), .ref (q 6), .ref (q 7), .ref (q 8), .ref (q 9), .ref (q 10), .ref (q 11), .ref (q 12), .ref (q 13), .ref (q 14), .int (M_lines (M_rd v)), .int (M_size (M_rd v)), .int (M_at (M_rd v)), .int (M_place (M_rd v)), .int (M_sort (M_rd v)), .int (M_value (M_rd v)), .int (M_fault (M_rd v)), .int (M_faultPlace (M_rd v)), .int (M_lastFault (M_lf v)), .int (M_lastPlace (M_lf v)), .ref (q 15), .ref (q 16), .ref (q 17), .ref (q 18), .int (M_hasImage (M_im v)), .int (M_spanNow (M_rn v)), .ref (q 19), .int (M_placeThen (M_rn v)), .int (M_alonePlace (M_al v)), .int (M_aloneSteps (M_al v)), .int (M_aloneOut (M_al v)), .ref (q 20), .ref (q 21), .ref (q 22), .ref (q 23), .int (M_shotAlarm (M_ex v)), .int (M_drawn (M_ex v))]), ((q 1), aI K 700 (M_tape (M_tp v))), ((q 2), aI K 20 (M_number (M_cd v))), ((q 3), aZ K 5 (M_isTold (M_rd v))), ((q 4), aI K 80 (M_codeSort (M_cd v))), ((q 5), aI K 80 (M_codeA (M_cd v))), ((q 6), aI K 80 (M_codeB (M_cd v))), ((q 7), aI K 80 (M_codeC (M_cd v))), ((q 8), aI K 80 (M_codeName (M_cd v))), ((q 9), aI K 80 (M_codePlace (M_cd v))), ((q 10), aI K 80 (M_codeTo (M_cd v))), ((q 11), aI K 280 (M_labelName (M_cd v))), ((q 12), aI K 280 (M_labelAt (M_cd v))), ((q 13), aI K 64 (M_data (M_cd v))), ((q 14), aZ K 32 (M_hasData (M_rd v))), ((q 15), aI K 314 (M_s (M_rn v))), ((q 16), aI K 314 (M_aside (M_ex v))), ((q 17), aI K 314 (M_further (M_ex v))), ((q 18), aI K 314 (M_image (M_im v))), ((q 19), aI K 3 (M_sizeNow (M_rn v))), ((q 20), aI K 8 (M_aloneRegister (M_al v))), ((q 21), aI K 4 (M_aloneReal (M_al v))), ((q 22), aI K 32 (M_aloneMemory (M_al v))), ((q 23), aI K 999 (M_aloneOutput (M_al v)))]) rfl ?_
  refine r_aload_n (pc := 0) cx dX10_thread_0 0 rfl ?_
  refine r_iconst (pc := 1) cx dX10_thread_1 ic_0 ?_
  refine r_putI (pc := 2) (ws' := [((q 0), ob 9 [.int (0 : Int32), .ref (q 1), .int (M_taped (M_tp v)), .ref (q 2), .ref (q 3), .ref (q 4), .ref (q 5), .ref (q 6), .ref (q 7), .ref (q 8), .ref (q 9), .ref (q 10), .ref (q 11), .ref (q 12), .ref (q 13), .ref (q 14), .int (M_lines (M_rd v)), .int (M_size (M_rd v)), .int (M_at (M_rd v)), .int (M_place (M_rd v)), .int (M_sort (M_rd v)), .int (M_value (M_rd v)), .int (M_fault (M_rd v)), .int (M_faultPlace (M_rd v)), .int (M_lastFault (M_lf v)), .int (M_lastPlace (M_lf v)), .ref (q 15), .ref (q 16), .ref (q 17), .ref (q 18), .int (M_hasImage (M_im v)), .int (M_spanNow (M_rn v)), .ref (q 19), .int (M_placeThen (M_rn v)), .int (M_alonePlace (M_al v)), .int (M_aloneSteps (M_al v)), .int (M_aloneOut (M_al v)), .ref (q 20), .ref (q 21), .ref (q 22), .ref (q 23), .int (M_shotAlarm (M_ex v)), .int (M_drawn (M_ex v))]), ((q 1), aI K 700 (M_tape (M_tp v))), ((q 2), aI K 20 (M_number (M_cd v))), ((q 3), aZ K 5 (M_isTold (M_rd v))), ((q 4), aI K 80 (M_codeSort (M_cd v))), ((q 5), aI K 80 (M_codeA (M_cd v))), ((q 6), aI K 80 (M_codeB (M_cd v))), ((q 7), aI K 80 (M_codeC (M_cd v))), ((q 8), aI K 80 (M_codeName (M_cd v))), ((q 9), aI K 80 (M_codePlace (M_cd v))), ((q 10), aI K 80 (M_codeTo (M_cd v))), ((q 11), aI K 280 (M_labelName (M_cd v))), ((q 12), aI K 280 (M_labelAt (M_cd v))), ((q 13), aI K 64 (M_data (M_cd v))), ((q 14), aZ K 32 (M_hasData (M_rd v))), ((q 15), aI K 314 (M_s (M_rn v))), ((q 16), aI K 314 (M_aside (M_ex v))), ((q 17), aI K 314 (M_further (M_ex v))), ((q 18), aI K 314 (M_image (M_im v))), ((q 19), aI K 3 (M_sizeNow (M_rn v))), ((q 20), aI K 8 (M_aloneRegister (M_al v))), ((q 21), aI K 4 (M_aloneReal (M_al v))), ((q 22), aI K 32 (M_aloneMemory (M_al v))), ((q 23), aI K 999 (M_aloneOutput (M_al v)))]) cx cf_X10 0 0 rfl (by decide) (Nat.le_of_ble_eq_true rfl) rfl pfd_I wd_1316 dX10_thread_2 rfl ?_
  refine r_iload_n (pc := 5) cx dX10_thread_5 1 rfl ?_
  refine r_if_lt (pc := 6) (tgt := 14) cx dX10_thread_6 (by decide) (fun h1 => ?_) (fun h1 => ?_)
  · have hf := ifp h1 hf
    refine r_aload_n (pc := 14) cx dX10_thread_14 0 rfl ?_
    refine r_iconst (pc := 15) cx dX10_thread_15 ic_1 ?_
    refine r_putI (pc := 16) (ws' := [((q 0), ob 9 [.int (1 : Int32), .ref (q 1), .int (M_taped (M_tp v)), .ref (q 2), .ref (q 3), .ref (q 4), .ref (q 5), .ref (q 6), .ref (q 7), .ref (q 8), .ref (q 9), .ref (q 10), .ref (q 11), .ref (q 12), .ref (q 13), .ref (q 14), .int (M_lines (M_rd v)), .int (M_size (M_rd v)), .int (M_at (M_rd v)), .int (M_place (M_rd v)), .int (M_sort (M_rd v)), .int (M_value (M_rd v)), .int (M_fault (M_rd v)), .int (M_faultPlace (M_rd v)), .int (M_lastFault (M_lf v)), .int (M_lastPlace (M_lf v)), .ref (q 15), .ref (q 16), .ref (q 17), .ref (q 18), .int (M_hasImage (M_im v)), .int (M_spanNow (M_rn v)), .ref (q 19), .int (M_placeThen (M_rn v)), .int (M_alonePlace (M_al v)), .int (M_aloneSteps (M_al v)), .int (M_aloneOut (M_al v)), .ref (q 20), .ref (q 21), .ref (q 22), .ref (q 23), .int (M_shotAlarm (M_ex v)), .int (M_drawn (M_ex v))]), ((q 1), aI K 700 (M_tape (M_tp v))), ((q 2), aI K 20 (M_number (M_cd v))), ((q 3), aZ K 5 (M_isTold (M_rd v))), ((q 4), aI K 80 (M_codeSort (M_cd v))), ((q 5), aI K 80 (M_codeA (M_cd v))), ((q 6), aI K 80 (M_codeB (M_cd v))), ((q 7), aI K 80 (M_codeC (M_cd v))), ((q 8), aI K 80 (M_codeName (M_cd v))), ((q 9), aI K 80 (M_codePlace (M_cd v))), ((q 10), aI K 80 (M_codeTo (M_cd v))), ((q 11), aI K 280 (M_labelName (M_cd v))), ((q 12), aI K 280 (M_labelAt (M_cd v))), ((q 13), aI K 64 (M_data (M_cd v))), ((q 14), aZ K 32 (M_hasData (M_rd v))), ((q 15), aI K 314 (M_s (M_rn v))), ((q 16), aI K 314 (M_aside (M_ex v))), ((q 17), aI K 314 (M_further (M_ex v))), ((q 18), aI K 314 (M_image (M_im v))), ((q 19), aI K 3 (M_sizeNow (M_rn v))), ((q 20), aI K 8 (M_aloneRegister (M_al v))), ((q 21), aI K 4 (M_aloneReal (M_al v))), ((q 22), aI K 32 (M_aloneMemory (M_al v))), ((q 23), aI K 999 (M_aloneOutput (M_al v)))]) cx cf_X10 0 0 rfl (by decide) (Nat.le_of_ble_eq_true rfl) rfl pfd_I wd_1316 dX10_thread_16 rfl ?_
    refine r_iconst (pc := 19) cx dX10_thread_19 ic_0 ?_
    cases hf
    exact r_iret (pc := 20) cx rfl rfl dX10_thread_20
  · have hf := ifn h1 hf
    refine r_iload_n (pc := 9) cx dX10_thread_9 1 rfl ?_
    refine r_iconst (pc := 10) cx dX10_thread_10 ic_1 ?_
    refine r_icmp_le (pc := 11) (tgt := 21) cx dX10_thread_11 (by decide) (fun h2 => ?_) (fun h2 => ?_)
    · have hf := ifp h2 hf
      refine r_iload_n (pc := 21) cx dX10_thread_21 2 rfl ?_
      refine r_if_lt (pc := 22) (tgt := 30) cx dX10_thread_22 (by decide) (fun h3 => ?_) (fun h3 => ?_)
      · have hf := ifp h3 hf
        refine r_aload_n (pc := 30) cx dX10_thread_30 0 rfl ?_
        refine r_iconst (pc := 31) cx dX10_thread_31 ic_2 ?_
        refine r_putI (pc := 32) (ws' := [((q 0), ob 9 [.int (2 : Int32), .ref (q 1), .int (M_taped (M_tp v)), .ref (q 2), .ref (q 3), .ref (q 4), .ref (q 5), .ref (q 6), .ref (q 7), .ref (q 8), .ref (q 9), .ref (q 10), .ref (q 11), .ref (q 12), .ref (q 13), .ref (q 14), .int (M_lines (M_rd v)), .int (M_size (M_rd v)), .int (M_at (M_rd v)), .int (M_place (M_rd v)), .int (M_sort (M_rd v)), .int (M_value (M_rd v)), .int (M_fault (M_rd v)), .int (M_faultPlace (M_rd v)), .int (M_lastFault (M_lf v)), .int (M_lastPlace (M_lf v)), .ref (q 15), .ref (q 16), .ref (q 17), .ref (q 18), .int (M_hasImage (M_im v)), .int (M_spanNow (M_rn v)), .ref (q 19), .int (M_placeThen (M_rn v)), .int (M_alonePlace (M_al v)), .int (M_aloneSteps (M_al v)), .int (M_aloneOut (M_al v)), .ref (q 20), .ref (q 21), .ref (q 22), .ref (q 23), .int (M_shotAlarm (M_ex v)), .int (M_drawn (M_ex v))]), ((q 1), aI K 700 (M_tape (M_tp v))), ((q 2), aI K 20 (M_number (M_cd v))), ((q 3), aZ K 5 (M_isTold (M_rd v))), ((q 4), aI K 80 (M_codeSort (M_cd v))), ((q 5), aI K 80 (M_codeA (M_cd v))), ((q 6), aI K 80 (M_codeB (M_cd v))), ((q 7), aI K 80 (M_codeC (M_cd v))), ((q 8), aI K 80 (M_codeName (M_cd v))), ((q 9), aI K 80 (M_codePlace (M_cd v))), ((q 10), aI K 80 (M_codeTo (M_cd v))), ((q 11), aI K 280 (M_labelName (M_cd v))), ((q 12), aI K 280 (M_labelAt (M_cd v))), ((q 13), aI K 64 (M_data (M_cd v))), ((q 14), aZ K 32 (M_hasData (M_rd v))), ((q 15), aI K 314 (M_s (M_rn v))), ((q 16), aI K 314 (M_aside (M_ex v))), ((q 17), aI K 314 (M_further (M_ex v))), ((q 18), aI K 314 (M_image (M_im v))), ((q 19), aI K 3 (M_sizeNow (M_rn v))), ((q 20), aI K 8 (M_aloneRegister (M_al v))), ((q 21), aI K 4 (M_aloneReal (M_al v))), ((q 22), aI K 32 (M_aloneMemory (M_al v))), ((q 23), aI K 999 (M_aloneOutput (M_al v)))]) cx cf_X10 0 0 rfl (by decide) (Nat.le_of_ble_eq_true rfl) rfl pfd_I wd_1316 dX10_thread_32 rfl ?_
        refine r_iconst (pc := 35) cx dX10_thread_35 ic_0 ?_
        cases hf
        exact r_iret (pc := 36) cx rfl rfl dX10_thread_36
      · have hf := ifn h3 hf
        refine r_iload_n (pc := 25) cx dX10_thread_25 2 rfl ?_
        refine r_iconst (pc := 26) cx dX10_thread_26 ic_3 ?_
        refine r_icmp_le (pc := 27) (tgt := 37) cx dX10_thread_27 (by decide) (fun h4 => ?_) (fun h4 => ?_)
        · have hf := ifp h4 hf
          refine r_iload_n (pc := 37) cx dX10_thread_37 2 rfl ?_
          refine r_if_ne (pc := 38) (tgt := 52) cx dX10_thread_38 (by decide) (fun h5 => ?_) (fun h5 => ?_)
          · have hf := ifn h5 hf
            refine r_iload_n (pc := 52) cx dX10_thread_52 2 rfl ?_
            refine r_iconst (pc := 53) cx dX10_thread_53 ic_1 ?_
            refine r_icmp_ne (pc := 54) (tgt := 68) cx dX10_thread_54 (by decide) (fun h6 => ?_) (fun h6 => ?_)
            · have hf := ifn h6 hf
              refine r_iload_n (pc := 68) cx dX10_thread_68 2 rfl ?_
              refine r_iconst (pc := 69) cx dX10_thread_69 ic_2 ?_
              refine r_icmp_ne (pc := 70) (tgt := 89) cx dX10_thread_70 (by decide) (fun h7 => ?_) (fun h7 => ?_)
              · have hf := ifn h7 hf
                refine r_aload_n (pc := 89) cx dX10_thread_89 0 rfl ?_
                refine r_iload_n (pc := 90) cx dX10_thread_90 1 rfl ?_
                obtain ⟨r8, hc9, hf⟩ := bd_of hf
                refine r_Vi (pc := 91) (ws' := [((q 0), ob 9 [.int (0 : Int32), .ref (q 1), .int (M_taped (M_tp v)), .ref (q 2), .ref (q 3), .ref (q 4), .ref (q 5), .ref (q 6), .ref (q 7), .ref (q 8), .ref (q 9), .ref (q 10), .ref (q 11), .ref (q 12), .ref (q 13), .ref (q 14), .int (M_lines (M_rd v)), .int (M_size (M_rd v)), .int (M_at (M_rd v)), .int (M_place (M_rd v)), .int (M_sort (M_rd v)), .int (M_value (M_rd v)), .int (M_fault (M_rd v)), .int (M_faultPlace (M_rd v)), .int (M_lastFault (M_lf v)), .int (M_lastPlace (M_lf v)), .ref (q 15), .ref (q 16), .ref (q 17), .ref (q 18), .int (M_hasImage (M_im v)), .int (M_spanNow (M_rn v)), .ref (q 19), .int (M_placeThen (M_rn v)), .int (M_alonePlace (M_al v)), .int (M_aloneSteps (M_al v)), .int (M_aloneOut (M_al v)), .ref (q 20), .ref (q 21), .ref (q 22), .ref (q 23), .int (M_shotAlarm (M_ex v)), .int (M_drawn (M_ex v))]), ((q 1), aI K 700 (M_tape (M_tp v))), ((q 2), aI K 20 (M_number (M_cd v))), ((q 3), aZ K 5 (M_isTold (M_rd v))), ((q 4), aI K 80 (M_codeSort (M_cd v))), ((q 5), aI K 80 (M_codeA (M_cd v))), ((q 6), aI K 80 (M_codeB (M_cd v))), ((q 7), aI K 80 (M_codeC (M_cd v))), ((q 8), aI K 80 (M_codeName (M_cd v))), ((q 9), aI K 80 (M_codePlace (M_cd v))), ((q 10), aI K 80 (M_codeTo (M_cd v))), ((q 11), aI K 280 (M_labelName (M_cd v))), ((q 12), aI K 280 (M_labelAt (M_cd v))), ((q 13), aI K 64 (M_data (M_cd v))), ((q 14), aZ K 32 (M_hasData (M_rd v))), ((q 15), aI K 314 (M_s (M_rn v))), ((q 16), aI K 314 (M_aside (M_ex v))), ((q 17), aI K 314 (M_further (M_ex v))), ((q 18), aI K 314 (M_image (M_im v))), ((q 19), aI K 3 (M_sizeNow (M_rn v))), ((q 20), aI K 8 (M_aloneRegister (M_al v))), ((q 21), aI K 4 (M_aloneReal (M_al v))), ((q 22), aI K 32 (M_aloneMemory (M_al v))), ((q 23), aI K 999 (M_aloneOutput (M_al v)))]) cx [.int a1] [] [0, 1, 2, 3, 4, 5, 6, 7, 8, 9, 10, 11, 12, 13, 14, 15, 16, 17, 18, 19, 20, 21, 22, 23] (m_M_why l D K q ((M_tp v), (M_rd v), (M_lf v), (M_cd v), (M_rn v), (M_ex v), (M_im v), (M_al v), (0 : Int32)) a1 hc9) yv_X10_why wd_1729 ⟨rfl, rfl⟩ (by decide) rfl rfl rfl (by decide) 0 rfl rfl rfl (Nat.le_of_ble_eq_true rfl) dX10_thread_91 ?_
                cases hf
                exact r_iret (pc := 94) cx rfl rfl dX10_thread_94
              · have hf := ifp h7 hf
                refine r_aload_n (pc := 73) cx dX10_thread_73 0 rfl ?_
                refine r_iload_n (pc := 74) cx dX10_thread_74 1 rfl ?_
                obtain ⟨r10, hc11, hf⟩ := bd_of hf
                refine r_Vi (pc := 75) (ws' := [((q 0), ob 9 [.int (0 : Int32), .ref (q 1), .int (M_taped (M_tp v)), .ref (q 2), .ref (q 3), .ref (q 4), .ref (q 5), .ref (q 6), .ref (q 7), .ref (q 8), .ref (q 9), .ref (q 10), .ref (q 11), .ref (q 12), .ref (q 13), .ref (q 14), .int (M_lines (M_rd v)), .int (M_size (M_rd v)), .int (M_at (M_rd v)), .int (M_place (M_rd v)), .int (M_sort (M_rd v)), .int (M_value (M_rd v)), .int (M_fault (M_rd v)), .int (M_faultPlace (M_rd v)), .int (M_lastFault (M_lf v)), .int (M_lastPlace (M_lf v)), .ref (q 15), .ref (q 16), .ref (q 17), .ref (q 18), .int (M_hasImage (M_im v)), .int (M_spanNow (M_rn v)), .ref (q 19), .int (M_placeThen (M_rn v)), .int (M_alonePlace (M_al v)), .int (M_aloneSteps (M_al v)), .int (M_aloneOut (M_al v)), .ref (q 20), .ref (q 21), .ref (q 22), .ref (q 23), .int (M_shotAlarm (M_ex v)), .int (M_drawn (M_ex v))]), ((q 1), aI K 700 (M_tape (M_tp v))), ((q 2), aI K 20 (M_number (M_cd v))), ((q 3), aZ K 5 (M_isTold (M_rd v))), ((q 4), aI K 80 (M_codeSort (M_cd v))), ((q 5), aI K 80 (M_codeA (M_cd v))), ((q 6), aI K 80 (M_codeB (M_cd v))), ((q 7), aI K 80 (M_codeC (M_cd v))), ((q 8), aI K 80 (M_codeName (M_cd v))), ((q 9), aI K 80 (M_codePlace (M_cd v))), ((q 10), aI K 80 (M_codeTo (M_cd v))), ((q 11), aI K 280 (M_labelName (M_cd v))), ((q 12), aI K 280 (M_labelAt (M_cd v))), ((q 13), aI K 64 (M_data (M_cd v))), ((q 14), aZ K 32 (M_hasData (M_rd v))), ((q 15), aI K 314 (M_s (M_rn v))), ((q 16), aI K 314 (M_aside (M_ex v))), ((q 17), aI K 314 (M_further (M_ex v))), ((q 18), aI K 314 (M_image (M_im v))), ((q 19), aI K 3 (M_sizeNow (M_rn v))), ((q 20), aI K 8 (M_aloneRegister (M_al v))), ((q 21), aI K 4 (M_aloneReal (M_al v))), ((q 22), aI K 32 (M_aloneMemory (M_al v))), ((q 23), aI K 999 (M_aloneOutput (M_al v)))]) cx [.int a1] [] [0, 1, 2, 3, 4, 5, 6, 7, 8, 9, 10, 11, 12, 13, 14, 15, 16, 17, 18, 19, 20, 21, 22, 23] (m_M_isHalted l D K q ((M_tp v), (M_rd v), (M_lf v), (M_cd v), (M_rn v), (M_ex v), (M_im v), (M_al v), (0 : Int32)) a1 hc11) yv_X10_isHalted wd_1580 ⟨rfl, rfl⟩ (by decide) rfl rfl rfl (by decide) 0 rfl rfl rfl (Nat.le_of_ble_eq_true rfl) dX10_thread_75 ?_
                refine r_if_eq (pc := 78) (tgt := 85) cx dX10_thread_78 (by decide) (fun h12 => ?_) (fun h12 => ?_)
                · have hf := ifp h12 hf
                  refine r_iconst (pc := 85) cx dX10_thread_85 ic_0 ?_
                  refine r_goto (pc := 86) (tgt := 94) cx dX10_thread_86 (by decide) ?_
                  cases hf
                  exact r_iret (pc := 94) cx rfl rfl dX10_thread_94
                · have hf := ifn h12 hf
                  refine r_iconst (pc := 81) cx dX10_thread_81 ic_1 ?_
                  refine r_goto (pc := 82) (tgt := 94) cx dX10_thread_82 (by decide) ?_
                  cases hf
                  exact r_iret (pc := 94) cx rfl rfl dX10_thread_94
            · have hf := ifp h6 hf
              refine r_aload_n (pc := 57) cx dX10_thread_57 0 rfl ?_
              refine r_get (pc := 58) cx cf_X10 0 26 rfl (by decide) rfl wd_1342 dX10_thread_58 ?_
              refine r_iconst (pc := 61) cx dX10_thread_61 ic_2 ?_
              refine r_iload_n (pc := 62) cx dX10_thread_62 1 rfl ?_
              refine r_iadd (pc := 63) cx dX10_thread_63 ?_
              obtain ⟨h13, hf⟩ := chk_of hf
              refine r_iald (pc := 64) cx 15 rfl h13 dX10_thread_64 ?_
              refine r_goto (pc := 65) (tgt := 94) cx dX10_thread_65 (by decide) ?_
              cases hf
              exact r_iret (pc := 94) cx rfl rfl dX10_thread_94
          · have hf := ifp h5 hf
            refine r_aload_n (pc := 41) cx dX10_thread_41 0 rfl ?_
            refine r_get (pc := 42) cx cf_X10 0 26 rfl (by decide) rfl wd_1342 dX10_thread_42 ?_
            refine r_iconst (pc := 45) cx dX10_thread_45 ic_0 ?_
            refine r_iload_n (pc := 46) cx dX10_thread_46 1 rfl ?_
            refine r_iadd (pc := 47) cx dX10_thread_47 ?_
            obtain ⟨h14, hf⟩ := chk_of hf
            refine r_iald (pc := 48) cx 15 rfl h14 dX10_thread_48 ?_
            refine r_goto (pc := 49) (tgt := 94) cx dX10_thread_49 (by decide) ?_
            cases hf
            exact r_iret (pc := 94) cx rfl rfl dX10_thread_94
        · have hf := ifn h4 hf
          refine r_aload_n (pc := 30) cx dX10_thread_30 0 rfl ?_
          refine r_iconst (pc := 31) cx dX10_thread_31 ic_2 ?_
          refine r_putI (pc := 32) (ws' := [((q 0), ob 9 [.int (2 : Int32), .ref (q 1), .int (M_taped (M_tp v)), .ref (q 2), .ref (q 3), .ref (q 4), .ref (q 5), .ref (q 6), .ref (q 7), .ref (q 8), .ref (q 9), .ref (q 10), .ref (q 11), .ref (q 12), .ref (q 13), .ref (q 14), .int (M_lines (M_rd v)), .int (M_size (M_rd v)), .int (M_at (M_rd v)), .int (M_place (M_rd v)), .int (M_sort (M_rd v)), .int (M_value (M_rd v)), .int (M_fault (M_rd v)), .int (M_faultPlace (M_rd v)), .int (M_lastFault (M_lf v)), .int (M_lastPlace (M_lf v)), .ref (q 15), .ref (q 16), .ref (q 17), .ref (q 18), .int (M_hasImage (M_im v)), .int (M_spanNow (M_rn v)), .ref (q 19), .int (M_placeThen (M_rn v)), .int (M_alonePlace (M_al v)), .int (M_aloneSteps (M_al v)), .int (M_aloneOut (M_al v)), .ref (q 20), .ref (q 21), .ref (q 22), .ref (q 23), .int (M_shotAlarm (M_ex v)), .int (M_drawn (M_ex v))]), ((q 1), aI K 700 (M_tape (M_tp v))), ((q 2), aI K 20 (M_number (M_cd v))), ((q 3), aZ K 5 (M_isTold (M_rd v))), ((q 4), aI K 80 (M_codeSort (M_cd v))), ((q 5), aI K 80 (M_codeA (M_cd v))), ((q 6), aI K 80 (M_codeB (M_cd v))), ((q 7), aI K 80 (M_codeC (M_cd v))), ((q 8), aI K 80 (M_codeName (M_cd v))), ((q 9), aI K 80 (M_codePlace (M_cd v))), ((q 10), aI K 80 (M_codeTo (M_cd v))), ((q 11), aI K 280 (M_labelName (M_cd v))), ((q 12), aI K 280 (M_labelAt (M_cd v))), ((q 13), aI K 64 (M_data (M_cd v))), ((q 14), aZ K 32 (M_hasData (M_rd v))), ((q 15), aI K 314 (M_s (M_rn v))), ((q 16), aI K 314 (M_aside (M_ex v))), ((q 17), aI K 314 (M_further (M_ex v))), ((q 18), aI K 314 (M_image (M_im v))), ((q 19), aI K 3 (M_sizeNow (M_rn v))), ((q 20), aI K 8 (M_aloneRegister (M_al v))), ((q 21), aI K 4 (M_aloneReal (M_al v))), ((q 22), aI K 32 (M_aloneMemory (M_al v))), ((q 23), aI K 999 (M_aloneOutput (M_al v)))]) cx cf_X10 0 0 rfl (by decide) (Nat.le_of_ble_eq_true rfl) rfl pfd_I wd_1316 dX10_thread_32 rfl ?_
          refine r_iconst (pc := 35) cx dX10_thread_35 ic_0 ?_
          cases hf
          exact r_iret (pc := 36) cx rfl rfl dX10_thread_36
    · have hf := ifn h2 hf
      refine r_aload_n (pc := 14) cx dX10_thread_14 0 rfl ?_
      refine r_iconst (pc := 15) cx dX10_thread_15 ic_1 ?_
      refine r_putI (pc := 16) (ws' := [((q 0), ob 9 [.int (1 : Int32), .ref (q 1), .int (M_taped (M_tp v)), .ref (q 2), .ref (q 3), .ref (q 4), .ref (q 5), .ref (q 6), .ref (q 7), .ref (q 8), .ref (q 9), .ref (q 10), .ref (q 11), .ref (q 12), .ref (q 13), .ref (q 14), .int (M_lines (M_rd v)), .int (M_size (M_rd v)), .int (M_at (M_rd v)), .int (M_place (M_rd v)), .int (M_sort (M_rd v)), .int (M_value (M_rd v)), .int (M_fault (M_rd v)), .int (M_faultPlace (M_rd v)), .int (M_lastFault (M_lf v)), .int (M_lastPlace (M_lf v)), .ref (q 15), .ref (q 16), .ref (q 17), .ref (q 18), .int (M_hasImage (M_im v)), .int (M_spanNow (M_rn v)), .ref (q 19), .int (M_placeThen (M_rn v)), .int (M_alonePlace (M_al v)), .int (M_aloneSteps (M_al v)), .int (M_aloneOut (M_al v)), .ref (q 20), .ref (q 21), .ref (q 22), .ref (q 23), .int (M_shotAlarm (M_ex v)), .int (M_drawn (M_ex v))]), ((q 1), aI K 700 (M_tape (M_tp v))), ((q 2), aI K 20 (M_number (M_cd v))), ((q 3), aZ K 5 (M_isTold (M_rd v))), ((q 4), aI K 80 (M_codeSort (M_cd v))), ((q 5), aI K 80 (M_codeA (M_cd v))), ((q 6), aI K 80 (M_codeB (M_cd v))), ((q 7), aI K 80 (M_codeC (M_cd v))), ((q 8), aI K 80 (M_codeName (M_cd v))), ((q 9), aI K 80 (M_codePlace (M_cd v))), ((q 10), aI K 80 (M_codeTo (M_cd v))), ((q 11), aI K 280 (M_labelName (M_cd v))), ((q 12), aI K 280 (M_labelAt (M_cd v))), ((q 13), aI K 64 (M_data (M_cd v))), ((q 14), aZ K 32 (M_hasData (M_rd v))), ((q 15), aI K 314 (M_s (M_rn v))), ((q 16), aI K 314 (M_aside (M_ex v))), ((q 17), aI K 314 (M_further (M_ex v))), ((q 18), aI K 314 (M_image (M_im v))), ((q 19), aI K 3 (M_sizeNow (M_rn v))), ((q 20), aI K 8 (M_aloneRegister (M_al v))), ((q 21), aI K 4 (M_aloneReal (M_al v))), ((q 22), aI K 32 (M_aloneMemory (M_al v))), ((q 23), aI K 999 (M_aloneOutput (M_al v)))]) cx cf_X10 0 0 rfl (by decide) (Nat.le_of_ble_eq_true rfl) rfl pfd_I wd_1316 dX10_thread_16 rfl ?_
      refine r_iconst (pc := 19) cx dX10_thread_19 ic_0 ?_
      cases hf
      exact r_iret (pc := 20) cx rfl rfl dX10_thread_20
theorem yv_X10_thread : YV yX10_thread cX10_thread 3 (some .int) 2 := ⟨⟨by decide +kernel, by decide +kernel, by decide +kernel⟩, wd_1728, wd_102, wd_1726, wd_1727⟩
def f_M_isIn (a0 : Int32) (a1 : Int32) : Option (Int32) :=
  (if a0 < (0 : Int32) then (some (0 : Int32)) else (if a1 ≤ a0 then (some (0 : Int32)) else (some (1 : Int32))))
abbrev rm_M_isIn : Room := { frames := 0, cells := 0, slots := 0, locals := 0 }
set_option maxRecDepth 100000 in
set_option maxHeartbeats 4000000 in
theorem m_M_isIn (l : Launch) (D : va_G) (K : Nat → ClassId) (a0 : Int32) (a1 : Int32) {r_ : Int32} (hf : f_M_isIn a0 a1 = some r_) : MI l yX10_isIn cX10_isIn 2 (some .boolean) rm_M_isIn D K [.int a0, .int a1] ([]) r_ ([]) := by
  refine MI_of (loc0 := [(0, .int a0), (1, .int a1)]) (by decide +kernel) rfl (Nat.le_of_ble_eq_true rfl) ?_
  intro p e s m args below meth c A cx
  unfold f_M_isIn at hf
  refine r_ws (ws' := []) rfl ?_
  refine r_iload_n (pc := 0) cx dX10_isIn_0 0 rfl ?_
  refine r_if_lt (pc := 1) (tgt := 13) cx dX10_isIn_1 (by decide) (fun h1 => ?_) (fun h1 => ?_)
  · have hf := ifp h1 hf
    refine r_iconst (pc := 13) cx dX10_isIn_13 ic_0 ?_
    cases hf
    exact r_zret (pc := 14) cx (Or.inl rfl) rfl rfl dX10_isIn_14
  · have hf := ifn h1 hf
    refine r_iload_n (pc := 4) cx dX10_isIn_4 0 rfl ?_
    refine r_iload_n (pc := 5) cx dX10_isIn_5 1 rfl ?_
    refine r_icmp_ge (pc := 6) (tgt := 13) cx dX10_isIn_6 (by decide) (fun h2 => ?_) (fun h2 => ?_)
    · have hf := ifp h2 hf
      refine r_iconst (pc := 13) cx dX10_isIn_13 ic_0 ?_
      cases hf
      exact r_zret (pc := 14) cx (Or.inl rfl) rfl rfl dX10_isIn_14
    · have hf := ifn h2 hf
      refine r_iconst (pc := 9) cx dX10_isIn_9 ic_1 ?_
      refine r_goto (pc := 10) (tgt := 14) cx dX10_isIn_10 (by decide) ?_
      cases hf
      exact r_zret (pc := 14) cx (Or.inr rfl) rfl rfl dX10_isIn_14
theorem ys_X10_isIn : YS yX10_isIn cX10_isIn 2 (some .boolean) 2 := ⟨⟨by decide +kernel, by decide +kernel, by decide +kernel⟩, wd_1739, wd_102, wd_1738⟩
def f_M_register_ (v : T_M) (a1 : Int32) (a2 : Int32) : Option (Int32 × T_M) :=
  (bd (f_M_isIn a1 (2 : Int32)) fun (r1 : Int32) => (if r1 = (0 : Int32) then (some ((0 : Int32), ((M_tp v), (M_rd v), (M_lf v), (M_cd v), (M_rn v), (M_ex v), (M_im v), (M_al v), (0 : Int32)))) else (bd (f_M_isIn a2 (8 : Int32)) fun (r4 : Int32) => (if r4 = (0 : Int32) then (some ((0 : Int32), ((M_tp v), (M_rd v), (M_lf v), (M_cd v), (M_rn v), (M_ex v), (M_im v), (M_al v), (0 : Int32)))) else (if ix (((4 : Int32) + ((8 : Int32) * a1)) + a2) 314 then (some (((M_s (M_rn v)) ((((4 : Int32) + ((8 : Int32) * a1)) + a2)).toNatClampNeg), ((M_tp v), (M_rd v), (M_lf v), (M_cd v), (M_rn v), (M_ex v), (M_im v), (M_al v), (0 : Int32)))) else none)))))
abbrev rm_M_register_ : Room := { frames := 1, cells := 0, slots := 0, locals := 21 }
set_option maxRecDepth 100000 in
set_option maxHeartbeats 4000000 in
theorem m_M_register_ (l : Launch) (D : va_G) (K : Nat → ClassId) (q : Nat → Nat) (v : T_M) (a1 : Int32) (a2 : Int32) {r_ : Int32} {o_v : T_M} (hf : f_M_register_ v a1 a2 = some (r_, o_v)) : MI l yX10_register_ cX10_register_ 3 (some .int) rm_M_register_ D K [.ref (q 0), .int a1, .int a2] (cl_M K q v) r_ (cl_M K q o_v) := by
  refine MI_of (loc0 := [(0, .ref (q 0)), (1, .int a1), (2, .int a2)]) (by decide +kernel) rfl (Nat.le_of_ble_eq_true rfl) ?_
  intro p e s m args below meth c A cx
  unfold f_M_register_ at hf
  refine r_ws (ws' := [((q 0), ob 9 [.int (M_thrown v), .ref (q 1), .int (M_taped (M_tp v)), .ref (q 2), .ref (q 3), .ref (q 4), .ref (q 5), .ref (q 6), .ref (q 7), .ref (q 8), .ref (q 9), .ref (q 10), .ref (q 11), .ref (q 12), .ref (q 13), .ref (q 14), .int (M_lines (M_rd v)), .int (M_size (M_rd v)), .int (M_at (M_rd v)), .int (M_place (M_rd v)), .int (M_sort (M_rd v)), .int (M_value (M_rd v)), .int (M_fault (M_rd v)), .int (M_faultPlace (M_rd v)), .int (M_lastFault (M_lf v)), .int (M_lastPlace (M_lf v)), .ref (q 15), .ref (q 16), .ref (q 17), .ref (q 18), .int (M_hasImage (M_im v)), .int (M_spanNow (M_rn v)), .ref (q 19), .int (M_placeThen (M_rn v)), .int (M_alonePlace (M_al v)), .int (M_aloneSteps (M_al v)), .int (M_aloneOut (M_al v)), .ref (q 20), .ref (q 21), .ref (q 22), .ref (q 23), .int (M_shotAlarm (M_ex v)), .int (M_drawn (M_ex v))]), ((q 1), aI K 700 (M_tape (M_tp v))), ((q 2), aI K 20 (M_number (M_cd v))), ((q 3), aZ K 5 (M_isTold (M_rd v))), ((q 4), aI K 80 (M_codeSort (M_cd v))), ((q 5), aI K 80 (M_codeA (M_cd v))), ((q 6), aI K 80 (M_codeB (M_cd v))), ((q 7), aI K 80 (M_codeC (M_cd v))), ((q 8), aI K 80 (M_codeName (M_cd v))), ((q 9), aI K 80 (M_codePlace (M_cd v))), ((q 10), aI K 80 (M_codeTo (M_cd v))), ((q 11), aI K 280 (M_labelName (M_cd v))), ((q 12), aI K 280 (M_labelAt (M_cd v))), ((q 13), aI K 64 (M_data (M_cd v))), ((q 14), aZ K 32 (M_hasData (M_rd v))), ((q 15), aI K 314 (M_s (M_rn v))), ((q 16), aI K 314 (M_aside (M_ex v))), ((q 17), aI K 314 (M_further (M_ex v))), ((q 18), aI K 314 (M_image (M_im v))), ((q 19), aI K 3 (M_sizeNow (M_rn v))), ((q 20), aI K 8 (M_aloneRegister (M_al v))), ((q 21), aI K 4 (M_aloneReal (M_al v))), ((q 22), aI K 32 (M_aloneMemory (M_al v))), ((q 23), aI K 999 (M_aloneOutput (M_al v)))]) rfl ?_
  refine r_aload_n (pc := 0) cx dX10_register__0 0 rfl ?_
  refine r_iconst (pc := 1) cx dX10_register__1 ic_0 ?_
  refine r_putI (pc := 2) (ws' := [((q 0), ob 9 [.int (0 : Int32), .ref (q 1), .int (M_taped (M_tp v)), .ref (q 2), .ref (q 3), .ref (q 4), .ref (q 5), .ref (q 6), .ref (q 7), .ref (q 8), .ref (q 9), .ref (q 10), .ref (q 11), .ref (q 12), .ref (q 13), .ref (q 14), .int (M_lines (M_rd v)), .int (M_size (M_rd v)), .int (M_at (M_rd v)), .int (M_place (M_rd v)), .int (M_sort (M_rd v)), .int (M_value (M_rd v)), .int (M_fault (M_rd v)), .int (M_faultPlace (M_rd v)), .int (M_lastFault (M_lf v)), .int (M_lastPlace (M_lf v)), .ref (q 15), .ref (q 16), .ref (q 17), .ref (q 18), .int (M_hasImage (M_im v)), .int (M_spanNow (M_rn v)), .ref (q 19), .int (M_placeThen (M_rn v)), .int (M_alonePlace (M_al v)), .int (M_aloneSteps (M_al v)), .int (M_aloneOut (M_al v)), .ref (q 20), .ref (q 21), .ref (q 22), .ref (q 23), .int (M_shotAlarm (M_ex v)), .int (M_drawn (M_ex v))]), ((q 1), aI K 700 (M_tape (M_tp v))), ((q 2), aI K 20 (M_number (M_cd v))), ((q 3), aZ K 5 (M_isTold (M_rd v))), ((q 4), aI K 80 (M_codeSort (M_cd v))), ((q 5), aI K 80 (M_codeA (M_cd v))), ((q 6), aI K 80 (M_codeB (M_cd v))), ((q 7), aI K 80 (M_codeC (M_cd v))), ((q 8), aI K 80 (M_codeName (M_cd v))), ((q 9), aI K 80 (M_codePlace (M_cd v))), ((q 10), aI K 80 (M_codeTo (M_cd v))), ((q 11), aI K 280 (M_labelName (M_cd v))), ((q 12), aI K 280 (M_labelAt (M_cd v))), ((q 13), aI K 64 (M_data (M_cd v))), ((q 14), aZ K 32 (M_hasData (M_rd v))), ((q 15), aI K 314 (M_s (M_rn v))), ((q 16), aI K 314 (M_aside (M_ex v))), ((q 17), aI K 314 (M_further (M_ex v))), ((q 18), aI K 314 (M_image (M_im v))), ((q 19), aI K 3 (M_sizeNow (M_rn v))), ((q 20), aI K 8 (M_aloneRegister (M_al v))), ((q 21), aI K 4 (M_aloneReal (M_al v))), ((q 22), aI K 32 (M_aloneMemory (M_al v))), ((q 23), aI K 999 (M_aloneOutput (M_al v)))]) cx cf_X10 0 0 rfl (by decide) (Nat.le_of_ble_eq_true rfl) rfl pfd_I wd_1316 dX10_register__2 rfl ?_
  refine r_iload_n (pc := 5) cx dX10_register__5 1 rfl ?_
  refine r_iconst (pc := 6) cx dX10_register__6 ic_2 ?_
  obtain ⟨r1, hc2, hf⟩ := bd_of hf
  refine r_Si (pc := 7) (ws' := [((q 0), ob 9 [.int (0 : Int32), .ref (q 1), .int (M_taped (M_tp v)), .ref (q 2), .ref (q 3), .ref (q 4), .ref (q 5), .ref (q 6), .ref (q 7), .ref (q 8), .ref (q 9), .ref (q 10), .ref (q 11), .ref (q 12), .ref (q 13), .ref (q 14), .int (M_lines (M_rd v)), .int (M_size (M_rd v)), .int (M_at (M_rd v)), .int (M_place (M_rd v)), .int (M_sort (M_rd v)), .int (M_value (M_rd v)), .int (M_fault (M_rd v)), .int (M_faultPlace (M_rd v)), .int (M_lastFault (M_lf v)), .int (M_lastPlace (M_lf v)), .ref (q 15), .ref (q 16), .ref (q 17), .ref (q 18), .int (M_hasImage (M_im v)), .int (M_spanNow (M_rn v)), .ref (q 19), .int (M_placeThen (M_rn v)), .int (M_alonePlace (M_al v)), .int (M_aloneSteps (M_al v)), .int (M_aloneOut (M_al v)), .ref (q 20), .ref (q 21), .ref (q 22), .ref (q 23), .int (M_shotAlarm (M_ex v)), .int (M_drawn (M_ex v))]), ((q 1), aI K 700 (M_tape (M_tp v))), ((q 2), aI K 20 (M_number (M_cd v))), ((q 3), aZ K 5 (M_isTold (M_rd v))), ((q 4), aI K 80 (M_codeSort (M_cd v))), ((q 5), aI K 80 (M_codeA (M_cd v))), ((q 6), aI K 80 (M_codeB (M_cd v))), ((q 7), aI K 80 (M_codeC (M_cd v))), ((q 8), aI K 80 (M_codeName (M_cd v))), ((q 9), aI K 80 (M_codePlace (M_cd v))), ((q 10), aI K 80 (M_codeTo (M_cd v))), ((q 11), aI K 280 (M_labelName (M_cd v))), ((q 12), aI K 280 (M_labelAt (M_cd v))), ((q 13), aI K 64 (M_data (M_cd v))), ((q 14), aZ K 32 (M_hasData (M_rd v))), ((q 15), aI K 314 (M_s (M_rn v))), ((q 16), aI K 314 (M_aside (M_ex v))), ((q 17), aI K 314 (M_further (M_ex v))), ((q 18), aI K 314 (M_image (M_im v))), ((q 19), aI K 3 (M_sizeNow (M_rn v))), ((q 20), aI K 8 (M_aloneRegister (M_al v))), ((q 21), aI K 4 (M_aloneReal (M_al v))), ((q 22), aI K 32 (M_aloneMemory (M_al v))), ((q 23), aI K 999 (M_aloneOutput (M_al v)))]) cx [.int a1, .int (2 : Int32)] [] [] (m_M_isIn l D K a1 (2 : Int32) hc2) ys_X10_isIn wd_1737 ⟨rfl, rfl⟩ (by decide) rfl rfl rfl (by decide) rfl (Nat.le_of_ble_eq_true rfl) dX10_register__7 ?_
  refine r_if_eq (pc := 10) (tgt := 38) cx dX10_register__10 (by decide) (fun h3 => ?_) (fun h3 => ?_)
  · have hf := ifp h3 hf
    refine r_iconst (pc := 38) cx dX10_register__38 ic_0 ?_
    cases hf
    exact r_iret (pc := 39) cx rfl rfl dX10_register__39
  · have hf := ifn h3 hf
    refine r_iload_n (pc := 13) cx dX10_register__13 2 rfl ?_
    refine r_bipush (pc := 14) cx dX10_register__14 bp_8 ?_
    obtain ⟨r4, hc5, hf⟩ := bd_of hf
    refine r_Si (pc := 16) (ws' := [((q 0), ob 9 [.int (0 : Int32), .ref (q 1), .int (M_taped (M_tp v)), .ref (q 2), .ref (q 3), .ref (q 4), .ref (q 5), .ref (q 6), .ref (q 7), .ref (q 8), .ref (q 9), .ref (q 10), .ref (q 11), .ref (q 12), .ref (q 13), .ref (q 14), .int (M_lines (M_rd v)), .int (M_size (M_rd v)), .int (M_at (M_rd v)), .int (M_place (M_rd v)), .int (M_sort (M_rd v)), .int (M_value (M_rd v)), .int (M_fault (M_rd v)), .int (M_faultPlace (M_rd v)), .int (M_lastFault (M_lf v)), .int (M_lastPlace (M_lf v)), .ref (q 15), .ref (q 16), .ref (q 17), .ref (q 18), .int (M_hasImage (M_im v)), .int (M_spanNow (M_rn v)), .ref (q 19), .int (M_placeThen (M_rn v)), .int (M_alonePlace (M_al v)), .int (M_aloneSteps (M_al v)), .int (M_aloneOut (M_al v)), .ref (q 20), .ref (q 21), .ref (q 22), .ref (q 23), .int (M_shotAlarm (M_ex v)), .int (M_drawn (M_ex v))]), ((q 1), aI K 700 (M_tape (M_tp v))), ((q 2), aI K 20 (M_number (M_cd v))), ((q 3), aZ K 5 (M_isTold (M_rd v))), ((q 4), aI K 80 (M_codeSort (M_cd v))), ((q 5), aI K 80 (M_codeA (M_cd v))), ((q 6), aI K 80 (M_codeB (M_cd v))), ((q 7), aI K 80 (M_codeC (M_cd v))), ((q 8), aI K 80 (M_codeName (M_cd v))), ((q 9), aI K 80 (M_codePlace (M_cd v))), ((q 10), aI K 80 (M_codeTo (M_cd v))), ((q 11), aI K 280 (M_labelName (M_cd v))), ((q 12), aI K 280 (M_labelAt (M_cd v))), ((q 13), aI K 64 (M_data (M_cd v))), ((q 14), aZ K 32 (M_hasData (M_rd v))), ((q 15), aI K 314 (M_s (M_rn v))), ((q 16), aI K 314 (M_aside (M_ex v))), ((q 17), aI K 314 (M_further (M_ex v))), ((q 18), aI K 314 (M_image (M_im v))), ((q 19), aI K 3 (M_sizeNow (M_rn v))), ((q 20), aI K 8 (M_aloneRegister (M_al v))), ((q 21), aI K 4 (M_aloneReal (M_al v))), ((q 22), aI K 32 (M_aloneMemory (M_al v))), ((q 23), aI K 999 (M_aloneOutput (M_al v)))]) cx [.int a2, .int (8 : Int32)] [] [] (m_M_isIn l D K a2 (8 : Int32) hc5) ys_X10_isIn wd_1737 ⟨rfl, rfl⟩ (by decide) rfl rfl rfl (by decide) rfl (Nat.le_of_ble_eq_true rfl) dX10_register__16 ?_
    refine r_if_eq (pc := 19) (tgt := 38) cx dX10_register__19 (by decide) (fun h6 => ?_) (fun h6 => ?_)
    · have hf := ifp h6 hf
      refine r_iconst (pc := 38) cx dX10_register__38 ic_0 ?_
      cases hf
      exact r_iret (pc := 39) cx rfl rfl dX10_register__39
    · have hf := ifn h6 hf
      refine r_aload_n (pc := 22) cx dX10_register__22 0 rfl ?_
      refine r_get (pc := 23) cx cf_X10 0 26 rfl (by decide) rfl wd_1342 dX10_register__23 ?_
      refine r_iconst (pc := 26) cx dX10_register__26 ic_4 ?_
      refine r_bipush (pc := 27) cx dX10_register__27 bp_8 ?_
      refine r_iload_n (pc := 29) cx dX10_register__29 1 rfl ?_
      refine r_imul (pc := 30) cx dX10_register__30 ?_
      refine r_iadd (pc := 31) cx dX10_register__31 ?_
      refine r_iload_n (pc := 32) cx dX10_register__32 2 rfl ?_
      refine r_iadd (pc := 33) cx dX10_register__33 ?_
      obtain ⟨h7, hf⟩ := chk_of hf
      refine r_iald (pc := 34) cx 15 rfl h7 dX10_register__34 ?_
      refine r_goto (pc := 35) (tgt := 39) cx dX10_register__35 (by decide) ?_
      cases hf
      exact r_iret (pc := 39) cx rfl rfl dX10_register__39
theorem yv_X10_register_ : YV yX10_register_ cX10_register_ 3 (some .int) 2 := ⟨⟨by decide +kernel, by decide +kernel, by decide +kernel⟩, wd_1736, wd_102, wd_1734, wd_1735⟩
def f_M_real (v : T_M) (a1 : Int32) (a2 : Int32) : Option (Int32 × T_M) :=
  (bd (f_M_isIn a1 (2 : Int32)) fun (r1 : Int32) => (if r1 = (0 : Int32) then (some ((0 : Int32), ((M_tp v), (M_rd v), (M_lf v), (M_cd v), (M_rn v), (M_ex v), (M_im v), (M_al v), (0 : Int32)))) else (bd (f_M_isIn a2 (4 : Int32)) fun (r4 : Int32) => (if r4 = (0 : Int32) then (some ((0 : Int32), ((M_tp v), (M_rd v), (M_lf v), (M_cd v), (M_rn v), (M_ex v), (M_im v), (M_al v), (0 : Int32)))) else (if ix (((20 : Int32) + ((4 : Int32) * a1)) + a2) 314 then (some (((M_s (M_rn v)) ((((20 : Int32) + ((4 : Int32) * a1)) + a2)).toNatClampNeg), ((M_tp v), (M_rd v), (M_lf v), (M_cd v), (M_rn v), (M_ex v), (M_im v), (M_al v), (0 : Int32)))) else none)))))
abbrev rm_M_real : Room := { frames := 1, cells := 0, slots := 0, locals := 21 }
set_option maxRecDepth 100000 in
set_option maxHeartbeats 4000000 in
theorem m_M_real (l : Launch) (D : va_G) (K : Nat → ClassId) (q : Nat → Nat) (v : T_M) (a1 : Int32) (a2 : Int32) {r_ : Int32} {o_v : T_M} (hf : f_M_real v a1 a2 = some (r_, o_v)) : MI l yX10_real cX10_real 3 (some .int) rm_M_real D K [.ref (q 0), .int a1, .int a2] (cl_M K q v) r_ (cl_M K q o_v) := by
  refine MI_of (loc0 := [(0, .ref (q 0)), (1, .int a1), (2, .int a2)]) (by decide +kernel) rfl (Nat.le_of_ble_eq_true rfl) ?_
  intro p e s m args below meth c A cx
  unfold f_M_real at hf
  refine r_ws (ws' := [((q 0), ob 9 [.int (M_thrown v), .ref (q 1), .int (M_taped (M_tp v)), .ref (q 2), .ref (q 3), .ref (q 4), .ref (q 5), .ref (q 6), .ref (q 7), .ref (q 8), .ref (q 9), .ref (q 10), .ref (q 11), .ref (q 12), .ref (q 13), .ref (q 14), .int (M_lines (M_rd v)), .int (M_size (M_rd v)), .int (M_at (M_rd v)), .int (M_place (M_rd v)), .int (M_sort (M_rd v)), .int (M_value (M_rd v)), .int (M_fault (M_rd v)), .int (M_faultPlace (M_rd v)), .int (M_lastFault (M_lf v)), .int (M_lastPlace (M_lf v)), .ref (q 15), .ref (q 16), .ref (q 17), .ref (q 18), .int (M_hasImage (M_im v)), .int (M_spanNow (M_rn v)), .ref (q 19), .int (M_placeThen (M_rn v)), .int (M_alonePlace (M_al v)), .int (M_aloneSteps (M_al v)), .int (M_aloneOut (M_al v)), .ref (q 20), .ref (q 21), .ref (q 22), .ref (q 23), .int (M_shotAlarm (M_ex v)), .int (M_drawn (M_ex v))]), ((q 1), aI K 700 (M_tape (M_tp v))), ((q 2), aI K 20 (M_number (M_cd v))), ((q 3), aZ K 5 (M_isTold (M_rd v))), ((q 4), aI K 80 (M_codeSort (M_cd v))), ((q 5), aI K 80 (M_codeA (M_cd v))), ((q 6), aI K 80 (M_codeB (M_cd v))), ((q 7), aI K 80 (M_codeC (M_cd v))), ((q 8), aI K 80 (M_codeName (M_cd v))), ((q 9), aI K 80 (M_codePlace (M_cd v))), ((q 10), aI K 80 (M_codeTo (M_cd v))), ((q 11), aI K 280 (M_labelName (M_cd v))), ((q 12), aI K 280 (M_labelAt (M_cd v))), ((q 13), aI K 64 (M_data (M_cd v))), ((q 14), aZ K 32 (M_hasData (M_rd v))), ((q 15), aI K 314 (M_s (M_rn v))), ((q 16), aI K 314 (M_aside (M_ex v))), ((q 17), aI K 314 (M_further (M_ex v))), ((q 18), aI K 314 (M_image (M_im v))), ((q 19), aI K 3 (M_sizeNow (M_rn v))), ((q 20), aI K 8 (M_aloneRegister (M_al v))), ((q 21), aI K 4 (M_aloneReal (M_al v))), ((q 22), aI K 32 (M_aloneMemory (M_al v))), ((q 23), aI K 999 (M_aloneOutput (M_al v)))]) rfl ?_
  refine r_aload_n (pc := 0) cx dX10_real_0 0 rfl ?_
  refine r_iconst (pc := 1) cx dX10_real_1 ic_0 ?_
  refine r_putI (pc := 2) (ws' := [((q 0), ob 9 [.int (0 : Int32), .ref (q 1), .int (M_taped (M_tp v)), .ref (q 2), .ref (q 3), .ref (q 4), .ref (q 5), .ref (q 6), .ref (q 7), .ref (q 8), .ref (q 9), .ref (q 10), .ref (q 11), .ref (q 12), .ref (q 13), .ref (q 14), .int (M_lines (M_rd v)), .int (M_size (M_rd v)), .int (M_at (M_rd v)), .int (M_place (M_rd v)), .int (M_sort (M_rd v)), .int (M_value (M_rd v)), .int (M_fault (M_rd v)), .int (M_faultPlace (M_rd v)), .int (M_lastFault (M_lf v)), .int (M_lastPlace (M_lf v)), .ref (q 15), .ref (q 16), .ref (q 17), .ref (q 18), .int (M_hasImage (M_im v)), .int (M_spanNow (M_rn v)), .ref (q 19), .int (M_placeThen (M_rn v)), .int (M_alonePlace (M_al v)), .int (M_aloneSteps (M_al v)), .int (M_aloneOut (M_al v)), .ref (q 20), .ref (q 21), .ref (q 22), .ref (q 23), .int (M_shotAlarm (M_ex v)), .int (M_drawn (M_ex v))]), ((q 1), aI K 700 (M_tape (M_tp v))), ((q 2), aI K 20 (M_number (M_cd v))), ((q 3), aZ K 5 (M_isTold (M_rd v))), ((q 4), aI K 80 (M_codeSort (M_cd v))), ((q 5), aI K 80 (M_codeA (M_cd v))), ((q 6), aI K 80 (M_codeB (M_cd v))), ((q 7), aI K 80 (M_codeC (M_cd v))), ((q 8), aI K 80 (M_codeName (M_cd v))), ((q 9), aI K 80 (M_codePlace (M_cd v))), ((q 10), aI K 80 (M_codeTo (M_cd v))), ((q 11), aI K 280 (M_labelName (M_cd v))), ((q 12), aI K 280 (M_labelAt (M_cd v))), ((q 13), aI K 64 (M_data (M_cd v))), ((q 14), aZ K 32 (M_hasData (M_rd v))), ((q 15), aI K 314 (M_s (M_rn v))), ((q 16), aI K 314 (M_aside (M_ex v))), ((q 17), aI K 314 (M_further (M_ex v))), ((q 18), aI K 314 (M_image (M_im v))), ((q 19), aI K 3 (M_sizeNow (M_rn v))), ((q 20), aI K 8 (M_aloneRegister (M_al v))), ((q 21), aI K 4 (M_aloneReal (M_al v))), ((q 22), aI K 32 (M_aloneMemory (M_al v))), ((q 23), aI K 999 (M_aloneOutput (M_al v)))]) cx cf_X10 0 0 rfl (by decide) (Nat.le_of_ble_eq_true rfl) rfl pfd_I wd_1316 dX10_real_2 rfl ?_
  refine r_iload_n (pc := 5) cx dX10_real_5 1 rfl ?_
  refine r_iconst (pc := 6) cx dX10_real_6 ic_2 ?_
  obtain ⟨r1, hc2, hf⟩ := bd_of hf
  refine r_Si (pc := 7) (ws' := [((q 0), ob 9 [.int (0 : Int32), .ref (q 1), .int (M_taped (M_tp v)), .ref (q 2), .ref (q 3), .ref (q 4), .ref (q 5), .ref (q 6), .ref (q 7), .ref (q 8), .ref (q 9), .ref (q 10), .ref (q 11), .ref (q 12), .ref (q 13), .ref (q 14), .int (M_lines (M_rd v)), .int (M_size (M_rd v)), .int (M_at (M_rd v)), .int (M_place (M_rd v)), .int (M_sort (M_rd v)), .int (M_value (M_rd v)), .int (M_fault (M_rd v)), .int (M_faultPlace (M_rd v)), .int (M_lastFault (M_lf v)), .int (M_lastPlace (M_lf v)), .ref (q 15), .ref (q 16), .ref (q 17), .ref (q 18), .int (M_hasImage (M_im v)), .int (M_spanNow (M_rn v)), .ref (q 19), .int (M_placeThen (M_rn v)), .int (M_alonePlace (M_al v)), .int (M_aloneSteps (M_al v)), .int (M_aloneOut (M_al v)), .ref (q 20), .ref (q 21), .ref (q 22), .ref (q 23), .int (M_shotAlarm (M_ex v)), .int (M_drawn (M_ex v))]), ((q 1), aI K 700 (M_tape (M_tp v))), ((q 2), aI K 20 (M_number (M_cd v))), ((q 3), aZ K 5 (M_isTold (M_rd v))), ((q 4), aI K 80 (M_codeSort (M_cd v))), ((q 5), aI K 80 (M_codeA (M_cd v))), ((q 6), aI K 80 (M_codeB (M_cd v))), ((q 7), aI K 80 (M_codeC (M_cd v))), ((q 8), aI K 80 (M_codeName (M_cd v))), ((q 9), aI K 80 (M_codePlace (M_cd v))), ((q 10), aI K 80 (M_codeTo (M_cd v))), ((q 11), aI K 280 (M_labelName (M_cd v))), ((q 12), aI K 280 (M_labelAt (M_cd v))), ((q 13), aI K 64 (M_data (M_cd v))), ((q 14), aZ K 32 (M_hasData (M_rd v))), ((q 15), aI K 314 (M_s (M_rn v))), ((q 16), aI K 314 (M_aside (M_ex v))), ((q 17), aI K 314 (M_further (M_ex v))), ((q 18), aI K 314 (M_image (M_im v))), ((q 19), aI K 3 (M_sizeNow (M_rn v))), ((q 20), aI K 8 (M_aloneRegister (M_al v))), ((q 21), aI K 4 (M_aloneReal (M_al v))), ((q 22), aI K 32 (M_aloneMemory (M_al v))), ((q 23), aI K 999 (M_aloneOutput (M_al v)))]) cx [.int a1, .int (2 : Int32)] [] [] (m_M_isIn l D K a1 (2 : Int32) hc2) ys_X10_isIn wd_1737 ⟨rfl, rfl⟩ (by decide) rfl rfl rfl (by decide) rfl (Nat.le_of_ble_eq_true rfl) dX10_real_7 ?_
  refine r_if_eq (pc := 10) (tgt := 37) cx dX10_real_10 (by decide) (fun h3 => ?_) (fun h3 => ?_)
  · have hf := ifp h3 hf
    refine r_iconst (pc := 37) cx dX10_real_37 ic_0 ?_
    cases hf
    exact r_iret (pc := 38) cx rfl rfl dX10_real_38
  · have hf := ifn h3 hf
    refine r_iload_n (pc := 13) cx dX10_real_13 2 rfl ?_
    refine r_iconst (pc := 14) cx dX10_real_14 ic_4 ?_
    obtain ⟨r4, hc5, hf⟩ := bd_of hf
    refine r_Si (pc := 15) (ws' := [((q 0), ob 9 [.int (0 : Int32), .ref (q 1), .int (M_taped (M_tp v)), .ref (q 2), .ref (q 3), .ref (q 4), .ref (q 5), .ref (q 6), .ref (q 7), .ref (q 8), .ref (q 9), .ref (q 10), .ref (q 11), .ref (q 12), .ref (q 13), .ref (q 14), .int (M_lines (M_rd v)), .int (M_size (M_rd v)), .int (M_at (M_rd v)), .int (M_place (M_rd v)), .int (M_sort (M_rd v)), .int (M_value (M_rd v)), .int (M_fault (M_rd v)), .int (M_faultPlace (M_rd v)), .int (M_lastFault (M_lf v)), .int (M_lastPlace (M_lf v)), .ref (q 15), .ref (q 16), .ref (q 17), .ref (q 18), .int (M_hasImage (M_im v)), .int (M_spanNow (M_rn v)), .ref (q 19), .int (M_placeThen (M_rn v)), .int (M_alonePlace (M_al v)), .int (M_aloneSteps (M_al v)), .int (M_aloneOut (M_al v)), .ref (q 20), .ref (q 21), .ref (q 22), .ref (q 23), .int (M_shotAlarm (M_ex v)), .int (M_drawn (M_ex v))]), ((q 1), aI K 700 (M_tape (M_tp v))), ((q 2), aI K 20 (M_number (M_cd v))), ((q 3), aZ K 5 (M_isTold (M_rd v))), ((q 4), aI K 80 (M_codeSort (M_cd v))), ((q 5), aI K 80 (M_codeA (M_cd v))), ((q 6), aI K 80 (M_codeB (M_cd v))), ((q 7), aI K 80 (M_codeC (M_cd v))), ((q 8), aI K 80 (M_codeName (M_cd v))), ((q 9), aI K 80 (M_codePlace (M_cd v))), ((q 10), aI K 80 (M_codeTo (M_cd v))), ((q 11), aI K 280 (M_labelName (M_cd v))), ((q 12), aI K 280 (M_labelAt (M_cd v))), ((q 13), aI K 64 (M_data (M_cd v))), ((q 14), aZ K 32 (M_hasData (M_rd v))), ((q 15), aI K 314 (M_s (M_rn v))), ((q 16), aI K 314 (M_aside (M_ex v))), ((q 17), aI K 314 (M_further (M_ex v))), ((q 18), aI K 314 (M_image (M_im v))), ((q 19), aI K 3 (M_sizeNow (M_rn v))), ((q 20), aI K 8 (M_aloneRegister (M_al v))), ((q 21), aI K 4 (M_aloneReal (M_al v))), ((q 22), aI K 32 (M_aloneMemory (M_al v))), ((q 23), aI K 999 (M_aloneOutput (M_al v)))]) cx [.int a2, .int (4 : Int32)] [] [] (m_M_isIn l D K a2 (4 : Int32) hc5) ys_X10_isIn wd_1737 ⟨rfl, rfl⟩ (by decide) rfl rfl rfl (by decide) rfl (Nat.le_of_ble_eq_true rfl) dX10_real_15 ?_
    refine r_if_eq (pc := 18) (tgt := 37) cx dX10_real_18 (by decide) (fun h6 => ?_) (fun h6 => ?_)
    · have hf := ifp h6 hf
      refine r_iconst (pc := 37) cx dX10_real_37 ic_0 ?_
      cases hf
      exact r_iret (pc := 38) cx rfl rfl dX10_real_38
    · have hf := ifn h6 hf
      refine r_aload_n (pc := 21) cx dX10_real_21 0 rfl ?_
      refine r_get (pc := 22) cx cf_X10 0 26 rfl (by decide) rfl wd_1342 dX10_real_22 ?_
      refine r_bipush (pc := 25) cx dX10_real_25 bp_20 ?_
      refine r_iconst (pc := 27) cx dX10_real_27 ic_4 ?_
      refine r_iload_n (pc := 28) cx dX10_real_28 1 rfl ?_
      refine r_imul (pc := 29) cx dX10_real_29 ?_
      refine r_iadd (pc := 30) cx dX10_real_30 ?_
      refine r_iload_n (pc := 31) cx dX10_real_31 2 rfl ?_
      refine r_iadd (pc := 32) cx dX10_real_32 ?_
      obtain ⟨h7, hf⟩ := chk_of hf
      refine r_iald (pc := 33) cx 15 rfl h7 dX10_real_33 ?_
      refine r_goto (pc := 34) (tgt := 38) cx dX10_real_34 (by decide) ?_
      cases hf
      exact r_iret (pc := 38) cx rfl rfl dX10_real_38
theorem yv_X10_real : YV yX10_real cX10_real 3 (some .int) 2 := ⟨⟨by decide +kernel, by decide +kernel, by decide +kernel⟩, wd_1743, wd_102, wd_1741, wd_1742⟩
def f_M_memory (v : T_M) (a1 : Int32) : Option (Int32 × T_M) :=
  (bd (f_M_isIn a1 (32 : Int32)) fun (r1 : Int32) => (if r1 = (0 : Int32) then (some ((0 : Int32), ((M_tp v), (M_rd v), (M_lf v), (M_cd v), (M_rn v), (M_ex v), (M_im v), (M_al v), (0 : Int32)))) else (if ix ((146 : Int32) + a1) 314 then (some (((M_s (M_rn v)) (((146 : Int32) + a1)).toNatClampNeg), ((M_tp v), (M_rd v), (M_lf v), (M_cd v), (M_rn v), (M_ex v), (M_im v), (M_al v), (0 : Int32)))) else none)))
abbrev rm_M_memory : Room := { frames := 1, cells := 0, slots := 0, locals := 21 }
set_option maxRecDepth 100000 in
set_option maxHeartbeats 4000000 in
theorem m_M_memory (l : Launch) (D : va_G) (K : Nat → ClassId) (q : Nat → Nat) (v : T_M) (a1 : Int32) {r_ : Int32} {o_v : T_M} (hf : f_M_memory v a1 = some (r_, o_v)) : MI l yX10_memory cX10_memory 2 (some .int) rm_M_memory D K [.ref (q 0), .int a1] (cl_M K q v) r_ (cl_M K q o_v) := by
  refine MI_of (loc0 := [(0, .ref (q 0)), (1, .int a1)]) (by decide +kernel) rfl (Nat.le_of_ble_eq_true rfl) ?_
  intro p e s m args below meth c A cx
  unfold f_M_memory at hf
  refine r_ws (ws' := [((q 0), ob 9 [.int (M_thrown v), .ref (q 1), .int (M_taped (M_tp v)), .ref (q 2), .ref (q 3), .ref (q 4), .ref (q 5), .ref (q 6), .ref (q 7), .ref (q 8), .ref (q 9), .ref (q 10), .ref (q 11), .ref (q 12), .ref (q 13), .ref (q 14), .int (M_lines (M_rd v)), .int (M_size (M_rd v)), .int (M_at (M_rd v)), .int (M_place (M_rd v)), .int (M_sort (M_rd v)), .int (M_value (M_rd v)), .int (M_fault (M_rd v)), .int (M_faultPlace (M_rd v)), .int (M_lastFault (M_lf v)), .int (M_lastPlace (M_lf v)), .ref (q 15), .ref (q 16), .ref (q 17), .ref (q 18), .int (M_hasImage (M_im v)), .int (M_spanNow (M_rn v)), .ref (q 19), .int (M_placeThen (M_rn v)), .int (M_alonePlace (M_al v)), .int (M_aloneSteps (M_al v)), .int (M_aloneOut (M_al v)), .ref (q 20), .ref (q 21), .ref (q 22), .ref (q 23), .int (M_shotAlarm (M_ex v)), .int (M_drawn (M_ex v))]), ((q 1), aI K 700 (M_tape (M_tp v))), ((q 2), aI K 20 (M_number (M_cd v))), ((q 3), aZ K 5 (M_isTold (M_rd v))), ((q 4), aI K 80 (M_codeSort (M_cd v))), ((q 5), aI K 80 (M_codeA (M_cd v))), ((q 6), aI K 80 (M_codeB (M_cd v))), ((q 7), aI K 80 (M_codeC (M_cd v))), ((q 8), aI K 80 (M_codeName (M_cd v))), ((q 9), aI K 80 (M_codePlace (M_cd v))), ((q 10), aI K 80 (M_codeTo (M_cd v))), ((q 11), aI K 280 (M_labelName (M_cd v))), ((q 12), aI K 280 (M_labelAt (M_cd v))), ((q 13), aI K 64 (M_data (M_cd v))), ((q 14), aZ K 32 (M_hasData (M_rd v))), ((q 15), aI K 314 (M_s (M_rn v))), ((q 16), aI K 314 (M_aside (M_ex v))), ((q 17), aI K 314 (M_further (M_ex v))), ((q 18), aI K 314 (M_image (M_im v))), ((q 19), aI K 3 (M_sizeNow (M_rn v))), ((q 20), aI K 8 (M_aloneRegister (M_al v))), ((q 21), aI K 4 (M_aloneReal (M_al v))), ((q 22), aI K 32 (M_aloneMemory (M_al v))), ((q 23), aI K 999 (M_aloneOutput (M_al v)))]) rfl ?_
  refine r_aload_n (pc := 0) cx dX10_memory_0 0 rfl ?_
  refine r_iconst (pc := 1) cx dX10_memory_1 ic_0 ?_
  refine r_putI (pc := 2) (ws' := [((q 0), ob 9 [.int (0 : Int32), .ref (q 1), .int (M_taped (M_tp v)), .ref (q 2), .ref (q 3), .ref (q 4), .ref (q 5), .ref (q 6), .ref (q 7), .ref (q 8), .ref (q 9), .ref (q 10), .ref (q 11), .ref (q 12), .ref (q 13), .ref (q 14), .int (M_lines (M_rd v)), .int (M_size (M_rd v)), .int (M_at (M_rd v)), .int (M_place (M_rd v)), .int (M_sort (M_rd v)), .int (M_value (M_rd v)), .int (M_fault (M_rd v)), .int (M_faultPlace (M_rd v)), .int (M_lastFault (M_lf v)), .int (M_lastPlace (M_lf v)), .ref (q 15), .ref (q 16), .ref (q 17), .ref (q 18), .int (M_hasImage (M_im v)), .int (M_spanNow (M_rn v)), .ref (q 19), .int (M_placeThen (M_rn v)), .int (M_alonePlace (M_al v)), .int (M_aloneSteps (M_al v)), .int (M_aloneOut (M_al v)), .ref (q 20), .ref (q 21), .ref (q 22), .ref (q 23), .int (M_shotAlarm (M_ex v)), .int (M_drawn (M_ex v))]), ((q 1), aI K 700 (M_tape (M_tp v))), ((q 2), aI K 20 (M_number (M_cd v))), ((q 3), aZ K 5 (M_isTold (M_rd v))), ((q 4), aI K 80 (M_codeSort (M_cd v))), ((q 5), aI K 80 (M_codeA (M_cd v))), ((q 6), aI K 80 (M_codeB (M_cd v))), ((q 7), aI K 80 (M_codeC (M_cd v))), ((q 8), aI K 80 (M_codeName (M_cd v))), ((q 9), aI K 80 (M_codePlace (M_cd v))), ((q 10), aI K 80 (M_codeTo (M_cd v))), ((q 11), aI K 280 (M_labelName (M_cd v))), ((q 12), aI K 280 (M_labelAt (M_cd v))), ((q 13), aI K 64 (M_data (M_cd v))), ((q 14), aZ K 32 (M_hasData (M_rd v))), ((q 15), aI K 314 (M_s (M_rn v))), ((q 16), aI K 314 (M_aside (M_ex v))), ((q 17), aI K 314 (M_further (M_ex v))), ((q 18), aI K 314 (M_image (M_im v))), ((q 19), aI K 3 (M_sizeNow (M_rn v))), ((q 20), aI K 8 (M_aloneRegister (M_al v))), ((q 21), aI K 4 (M_aloneReal (M_al v))), ((q 22), aI K 32 (M_aloneMemory (M_al v))), ((q 23), aI K 999 (M_aloneOutput (M_al v)))]) cx cf_X10 0 0 rfl (by decide) (Nat.le_of_ble_eq_true rfl) rfl pfd_I wd_1316 dX10_memory_2 rfl ?_
  refine r_iload_n (pc := 5) cx dX10_memory_5 1 rfl ?_
  refine r_bipush (pc := 6) cx dX10_memory_6 bp_32 ?_
  obtain ⟨r1, hc2, hf⟩ := bd_of hf
  refine r_Si (pc := 8) (ws' := [((q 0), ob 9 [.int (0 : Int32), .ref (q 1), .int (M_taped (M_tp v)), .ref (q 2), .ref (q 3), .ref (q 4), .ref (q 5), .ref (q 6), .ref (q 7), .ref (q 8), .ref (q 9), .ref (q 10), .ref (q 11), .ref (q 12), .ref (q 13), .ref (q 14), .int (M_lines (M_rd v)), .int (M_size (M_rd v)), .int (M_at (M_rd v)), .int (M_place (M_rd v)), .int (M_sort (M_rd v)), .int (M_value (M_rd v)), .int (M_fault (M_rd v)), .int (M_faultPlace (M_rd v)), .int (M_lastFault (M_lf v)), .int (M_lastPlace (M_lf v)), .ref (q 15), .ref (q 16), .ref (q 17), .ref (q 18), .int (M_hasImage (M_im v)), .int (M_spanNow (M_rn v)), .ref (q 19), .int (M_placeThen (M_rn v)), .int (M_alonePlace (M_al v)), .int (M_aloneSteps (M_al v)), .int (M_aloneOut (M_al v)), .ref (q 20), .ref (q 21), .ref (q 22), .ref (q 23), .int (M_shotAlarm (M_ex v)), .int (M_drawn (M_ex v))]), ((q 1), aI K 700 (M_tape (M_tp v))), ((q 2), aI K 20 (M_number (M_cd v))), ((q 3), aZ K 5 (M_isTold (M_rd v))), ((q 4), aI K 80 (M_codeSort (M_cd v))), ((q 5), aI K 80 (M_codeA (M_cd v))), ((q 6), aI K 80 (M_codeB (M_cd v))), ((q 7), aI K 80 (M_codeC (M_cd v))), ((q 8), aI K 80 (M_codeName (M_cd v))), ((q 9), aI K 80 (M_codePlace (M_cd v))), ((q 10), aI K 80 (M_codeTo (M_cd v))), ((q 11), aI K 280 (M_labelName (M_cd v))), ((q 12), aI K 280 (M_labelAt (M_cd v))), ((q 13), aI K 64 (M_data (M_cd v))), ((q 14), aZ K 32 (M_hasData (M_rd v))), ((q 15), aI K 314 (M_s (M_rn v))), ((q 16), aI K 314 (M_aside (M_ex v))), ((q 17), aI K 314 (M_further (M_ex v))), ((q 18), aI K 314 (M_image (M_im v))), ((q 19), aI K 3 (M_sizeNow (M_rn v))), ((q 20), aI K 8 (M_aloneRegister (M_al v))), ((q 21), aI K 4 (M_aloneReal (M_al v))), ((q 22), aI K 32 (M_aloneMemory (M_al v))), ((q 23), aI K 999 (M_aloneOutput (M_al v)))]) cx [.int a1, .int (32 : Int32)] [] [] (m_M_isIn l D K a1 (32 : Int32) hc2) ys_X10_isIn wd_1737 ⟨rfl, rfl⟩ (by decide) rfl rfl rfl (by decide) rfl (Nat.le_of_ble_eq_true rfl) dX10_memory_8 ?_
  refine r_if_eq (pc := 11) (tgt := 27) cx dX10_memory_11 (by decide) (fun h3 => ?_) (fun h3 => ?_)
  · have hf := ifp h3 hf
    refine r_iconst (pc := 27) cx dX10_memory_27 ic_0 ?_
    cases hf
    exact r_iret (pc := 28) cx rfl rfl dX10_memory_28
  · have hf := ifn h3 hf
    refine r_aload_n (pc := 14) cx dX10_memory_14 0 rfl ?_
    refine r_get (pc := 15) cx cf_X10 0 26 rfl (by decide) rfl wd_1342 dX10_memory_15 ?_
    refine r_sipush (pc := 18) cx dX10_memory_18 sp_146 ?_
    refine r_iload_n (pc := 21) cx dX10_memory_21 1 rfl ?_
    refine r_iadd (pc := 22) cx dX10_memory_22 ?_
    obtain ⟨h4, hf⟩ := chk_of hf
    refine r_iald (pc := 23) cx 15 rfl h4 dX10_memory_23 ?_
    refine r_goto (pc := 24) (tgt := 28) cx dX10_memory_24 (by decide) ?_
    cases hf
    exact r_iret (pc := 28) cx rfl rfl dX10_memory_28
theorem yv_X10_memory : YV yX10_memory cX10_memory 2 (some .int) 1 := ⟨⟨by decide +kernel, by decide +kernel, by decide +kernel⟩, wd_1747, wd_102, wd_1745, wd_1746⟩
def f_M_output (v : T_M) (a1 : Int32) : Option (Int32 × T_M) :=
  (bd (f_M_isIn a1 ((M_s (M_rn v)) (178 : Int32).toNatClampNeg)) fun (r1 : Int32) => (if r1 = (0 : Int32) then (some ((0 : Int32), ((M_tp v), (M_rd v), (M_lf v), (M_cd v), (M_rn v), (M_ex v), (M_im v), (M_al v), (0 : Int32)))) else (if ix ((179 : Int32) + a1) 314 then (some (((M_s (M_rn v)) (((179 : Int32) + a1)).toNatClampNeg), ((M_tp v), (M_rd v), (M_lf v), (M_cd v), (M_rn v), (M_ex v), (M_im v), (M_al v), (0 : Int32)))) else none)))
abbrev rm_M_output : Room := { frames := 1, cells := 0, slots := 0, locals := 21 }
set_option maxRecDepth 100000 in
set_option maxHeartbeats 4000000 in
theorem m_M_output (l : Launch) (D : va_G) (K : Nat → ClassId) (q : Nat → Nat) (v : T_M) (a1 : Int32) {r_ : Int32} {o_v : T_M} (hf : f_M_output v a1 = some (r_, o_v)) : MI l yX10_output cX10_output 2 (some .int) rm_M_output D K [.ref (q 0), .int a1] (cl_M K q v) r_ (cl_M K q o_v) := by
  refine MI_of (loc0 := [(0, .ref (q 0)), (1, .int a1)]) (by decide +kernel) rfl (Nat.le_of_ble_eq_true rfl) ?_
  intro p e s m args below meth c A cx
  unfold f_M_output at hf
  refine r_ws (ws' := [((q 0), ob 9 [.int (M_thrown v), .ref (q 1), .int (M_taped (M_tp v)), .ref (q 2), .ref (q 3), .ref (q 4), .ref (q 5), .ref (q 6), .ref (q 7), .ref (q 8), .ref (q 9), .ref (q 10), .ref (q 11), .ref (q 12), .ref (q 13), .ref (q 14), .int (M_lines (M_rd v)), .int (M_size (M_rd v)), .int (M_at (M_rd v)), .int (M_place (M_rd v)), .int (M_sort (M_rd v)), .int (M_value (M_rd v)), .int (M_fault (M_rd v)), .int (M_faultPlace (M_rd v)), .int (M_lastFault (M_lf v)), .int (M_lastPlace (M_lf v)), .ref (q 15), .ref (q 16), .ref (q 17), .ref (q 18), .int (M_hasImage (M_im v)), .int (M_spanNow (M_rn v)), .ref (q 19), .int (M_placeThen (M_rn v)), .int (M_alonePlace (M_al v)), .int (M_aloneSteps (M_al v)), .int (M_aloneOut (M_al v)), .ref (q 20), .ref (q 21), .ref (q 22), .ref (q 23), .int (M_shotAlarm (M_ex v)), .int (M_drawn (M_ex v))]), ((q 1), aI K 700 (M_tape (M_tp v))), ((q 2), aI K 20 (M_number (M_cd v))), ((q 3), aZ K 5 (M_isTold (M_rd v))), ((q 4), aI K 80 (M_codeSort (M_cd v))), ((q 5), aI K 80 (M_codeA (M_cd v))), ((q 6), aI K 80 (M_codeB (M_cd v))), ((q 7), aI K 80 (M_codeC (M_cd v))), ((q 8), aI K 80 (M_codeName (M_cd v))), ((q 9), aI K 80 (M_codePlace (M_cd v))), ((q 10), aI K 80 (M_codeTo (M_cd v))), ((q 11), aI K 280 (M_labelName (M_cd v))), ((q 12), aI K 280 (M_labelAt (M_cd v))), ((q 13), aI K 64 (M_data (M_cd v))), ((q 14), aZ K 32 (M_hasData (M_rd v))), ((q 15), aI K 314 (M_s (M_rn v))), ((q 16), aI K 314 (M_aside (M_ex v))), ((q 17), aI K 314 (M_further (M_ex v))), ((q 18), aI K 314 (M_image (M_im v))), ((q 19), aI K 3 (M_sizeNow (M_rn v))), ((q 20), aI K 8 (M_aloneRegister (M_al v))), ((q 21), aI K 4 (M_aloneReal (M_al v))), ((q 22), aI K 32 (M_aloneMemory (M_al v))), ((q 23), aI K 999 (M_aloneOutput (M_al v)))]) rfl ?_
  refine r_aload_n (pc := 0) cx dX10_output_0 0 rfl ?_
  refine r_iconst (pc := 1) cx dX10_output_1 ic_0 ?_
  refine r_putI (pc := 2) (ws' := [((q 0), ob 9 [.int (0 : Int32), .ref (q 1), .int (M_taped (M_tp v)), .ref (q 2), .ref (q 3), .ref (q 4), .ref (q 5), .ref (q 6), .ref (q 7), .ref (q 8), .ref (q 9), .ref (q 10), .ref (q 11), .ref (q 12), .ref (q 13), .ref (q 14), .int (M_lines (M_rd v)), .int (M_size (M_rd v)), .int (M_at (M_rd v)), .int (M_place (M_rd v)), .int (M_sort (M_rd v)), .int (M_value (M_rd v)), .int (M_fault (M_rd v)), .int (M_faultPlace (M_rd v)), .int (M_lastFault (M_lf v)), .int (M_lastPlace (M_lf v)), .ref (q 15), .ref (q 16), .ref (q 17), .ref (q 18), .int (M_hasImage (M_im v)), .int (M_spanNow (M_rn v)), .ref (q 19), .int (M_placeThen (M_rn v)), .int (M_alonePlace (M_al v)), .int (M_aloneSteps (M_al v)), .int (M_aloneOut (M_al v)), .ref (q 20), .ref (q 21), .ref (q 22), .ref (q 23), .int (M_shotAlarm (M_ex v)), .int (M_drawn (M_ex v))]), ((q 1), aI K 700 (M_tape (M_tp v))), ((q 2), aI K 20 (M_number (M_cd v))), ((q 3), aZ K 5 (M_isTold (M_rd v))), ((q 4), aI K 80 (M_codeSort (M_cd v))), ((q 5), aI K 80 (M_codeA (M_cd v))), ((q 6), aI K 80 (M_codeB (M_cd v))), ((q 7), aI K 80 (M_codeC (M_cd v))), ((q 8), aI K 80 (M_codeName (M_cd v))), ((q 9), aI K 80 (M_codePlace (M_cd v))), ((q 10), aI K 80 (M_codeTo (M_cd v))), ((q 11), aI K 280 (M_labelName (M_cd v))), ((q 12), aI K 280 (M_labelAt (M_cd v))), ((q 13), aI K 64 (M_data (M_cd v))), ((q 14), aZ K 32 (M_hasData (M_rd v))), ((q 15), aI K 314 (M_s (M_rn v))), ((q 16), aI K 314 (M_aside (M_ex v))), ((q 17), aI K 314 (M_further (M_ex v))), ((q 18), aI K 314 (M_image (M_im v))), ((q 19), aI K 3 (M_sizeNow (M_rn v))), ((q 20), aI K 8 (M_aloneRegister (M_al v))), ((q 21), aI K 4 (M_aloneReal (M_al v))), ((q 22), aI K 32 (M_aloneMemory (M_al v))), ((q 23), aI K 999 (M_aloneOutput (M_al v)))]) cx cf_X10 0 0 rfl (by decide) (Nat.le_of_ble_eq_true rfl) rfl pfd_I wd_1316 dX10_output_2 rfl ?_
  refine r_iload_n (pc := 5) cx dX10_output_5 1 rfl ?_
  refine r_aload_n (pc := 6) cx dX10_output_6 0 rfl ?_
  refine r_get (pc := 7) cx cf_X10 0 26 rfl (by decide) rfl wd_1342 dX10_output_7 ?_
  refine r_sipush (pc := 10) cx dX10_output_10 sp_178 ?_
  refine r_iald (pc := 13) cx 15 rfl (by decide) dX10_output_13 ?_
  obtain ⟨r1, hc2, hf⟩ := bd_of hf
  refine r_Si (pc := 14) (ws' := [((q 0), ob 9 [.int (0 : Int32), .ref (q 1), .int (M_taped (M_tp v)), .ref (q 2), .ref (q 3), .ref (q 4), .ref (q 5), .ref (q 6), .ref (q 7), .ref (q 8), .ref (q 9), .ref (q 10), .ref (q 11), .ref (q 12), .ref (q 13), .ref (q 14), .int (M_lines (M_rd v)), .int (M_size (M_rd v)), .int (M_at (M_rd v)), .int (M_place (M_rd v)), .int (M_sort (M_rd v)), .int (M_value (M_rd v)), .int (M_fault (M_rd v)), .int (M_faultPlace (M_rd v)), .int (M_lastFault (M_lf v)), .int (M_lastPlace (M_lf v)), .ref (q 15), .ref (q 16), .ref (q 17), .ref (q 18), .int (M_hasImage (M_im v)), .int (M_spanNow (M_rn v)), .ref (q 19), .int (M_placeThen (M_rn v)), .int (M_alonePlace (M_al v)), .int (M_aloneSteps (M_al v)), .int (M_aloneOut (M_al v)), .ref (q 20), .ref (q 21), .ref (q 22), .ref (q 23), .int (M_shotAlarm (M_ex v)), .int (M_drawn (M_ex v))]), ((q 1), aI K 700 (M_tape (M_tp v))), ((q 2), aI K 20 (M_number (M_cd v))), ((q 3), aZ K 5 (M_isTold (M_rd v))), ((q 4), aI K 80 (M_codeSort (M_cd v))), ((q 5), aI K 80 (M_codeA (M_cd v))), ((q 6), aI K 80 (M_codeB (M_cd v))), ((q 7), aI K 80 (M_codeC (M_cd v))), ((q 8), aI K 80 (M_codeName (M_cd v))), ((q 9), aI K 80 (M_codePlace (M_cd v))), ((q 10), aI K 80 (M_codeTo (M_cd v))), ((q 11), aI K 280 (M_labelName (M_cd v))), ((q 12), aI K 280 (M_labelAt (M_cd v))), ((q 13), aI K 64 (M_data (M_cd v))), ((q 14), aZ K 32 (M_hasData (M_rd v))), ((q 15), aI K 314 (M_s (M_rn v))), ((q 16), aI K 314 (M_aside (M_ex v))), ((q 17), aI K 314 (M_further (M_ex v))), ((q 18), aI K 314 (M_image (M_im v))), ((q 19), aI K 3 (M_sizeNow (M_rn v))), ((q 20), aI K 8 (M_aloneRegister (M_al v))), ((q 21), aI K 4 (M_aloneReal (M_al v))), ((q 22), aI K 32 (M_aloneMemory (M_al v))), ((q 23), aI K 999 (M_aloneOutput (M_al v)))]) cx [.int a1, .int ((M_s (M_rn v)) (178 : Int32).toNatClampNeg)] [] [] (m_M_isIn l D K a1 ((M_s (M_rn v)) (178 : Int32).toNatClampNeg) hc2) ys_X10_isIn wd_1737 ⟨rfl, rfl⟩ (by decide) rfl rfl rfl (by decide) rfl (Nat.le_of_ble_eq_true rfl) dX10_output_14 ?_
  refine r_if_eq (pc := 17) (tgt := 33) cx dX10_output_17 (by decide) (fun h3 => ?_) (fun h3 => ?_)
  · have hf := ifp h3 hf
    refine r_iconst (pc := 33) cx dX10_output_33 ic_0 ?_
    cases hf
    exact r_iret (pc := 34) cx rfl rfl dX10_output_34
  · have hf := ifn h3 hf
    refine r_aload_n (pc := 20) cx dX10_output_20 0 rfl ?_
    refine r_get (pc := 21) cx cf_X10 0 26 rfl (by decide) rfl wd_1342 dX10_output_21 ?_
    refine r_sipush (pc := 24) cx dX10_output_24 sp_179 ?_
    refine r_iload_n (pc := 27) cx dX10_output_27 1 rfl ?_
    refine r_iadd (pc := 28) cx dX10_output_28 ?_
    obtain ⟨h4, hf⟩ := chk_of hf
    refine r_iald (pc := 29) cx 15 rfl h4 dX10_output_29 ?_
    refine r_goto (pc := 30) (tgt := 34) cx dX10_output_30 (by decide) ?_
    cases hf
    exact r_iret (pc := 34) cx rfl rfl dX10_output_34
theorem yv_X10_output : YV yX10_output cX10_output 2 (some .int) 1 := ⟨⟨by decide +kernel, by decide +kernel, by decide +kernel⟩, wd_1751, wd_102, wd_1749, wd_1750⟩
def f_M_heldAt (v : T_M) (a1 : Int32) (a2 : Int32) : Option (Int32) :=
  (if a2 = (0 : Int32) then (if ix ((114 : Int32) + a1) 314 then (some ((M_s (M_rn v)) (((114 : Int32) + a1)).toNatClampNeg)) else none) else (if a2 = (1 : Int32) then (if ix ((122 : Int32) + a1) 314 then (some ((M_s (M_rn v)) (((122 : Int32) + a1)).toNatClampNeg)) else none) else (nm (fun (y3 : Int32) => ((if y3 = (0 : Int32) then (some (0 : Int32)) else (if a2 = (2 : Int32) then (some (1 : Int32)) else (if a2 = (3 : Int32) then (if ix ((130 : Int32) + a1) 314 then (some ((M_s (M_rn v)) (((130 : Int32) + a1)).toNatClampNeg)) else none) else (if ix ((138 : Int32) + a1) 314 then (some ((M_s (M_rn v)) (((138 : Int32) + a1)).toNatClampNeg)) else none)))) : Option (Int32))) fun J4 => (if ((M_s (M_rn v)) (113 : Int32).toNatClampNeg) ≤ a1 then (J4 (0 : Int32)) else (J4 (1 : Int32))))))
abbrev rm_M_heldAt : Room := { frames := 0, cells := 0, slots := 0, locals := 0 }
set_option maxRecDepth 100000 in
set_option maxHeartbeats 4000000 in
theorem m_M_heldAt (l : Launch) (D : va_G) (K : Nat → ClassId) (q : Nat → Nat) (v : T_M) (a1 : Int32) (a2 : Int32) {r_ : Int32} (hf : f_M_heldAt v a1 a2 = some r_) : MI l yX10_heldAt cX10_heldAt 4 (some .int) rm_M_heldAt D K [.ref (q 0), .int a1, .int a2] (cl_M K q v) r_ (cl_M K q v) := by
  refine MI_of (loc0 := [(0, .ref (q 0)), (1, .int a1), (2, .int a2)]) (by decide +kernel) rfl (Nat.le_of_ble_eq_true rfl) ?_
  intro p e s m args below meth c A cx
  unfold f_M_heldAt at hf
  refine r_ws (ws' := [((q 0), ob 9 [.int (M_thrown v), .ref (q 1), .int (M_taped (M_tp v)), .ref (q 2), .ref (q 3), .ref (q 4), .ref (q 5), .ref (q 6), .ref (q 7), .ref (q 8), .ref (q 9), .ref (q 10), .ref (q 11), .ref (q 12), .ref (q 13), .ref (q 14), .int (M_lines (M_rd v)), .int (M_size (M_rd v)), .int (M_at (M_rd v)), .int (M_place (M_rd v)), .int (M_sort (M_rd v)), .int (M_value (M_rd v)), .int (M_fault (M_rd v)), .int (M_faultPlace (M_rd v)), .int (M_lastFault (M_lf v)), .int (M_lastPlace (M_lf v)), .ref (q 15), .ref (q 16), .ref (q 17), .ref (q 18), .int (M_hasImage (M_im v)), .int (M_spanNow (M_rn v)), .ref (q 19), .int (M_placeThen (M_rn v)), .int (M_alonePlace (M_al v)), .int (M_aloneSteps (M_al v)), .int (M_aloneOut (M_al v)), .ref (q 20), .ref (q 21), .ref (q 22), .ref (q 23), .int (M_shotAlarm (M_ex v)), .int (M_drawn (M_ex v))]), ((q 1), aI K 700 (M_tape (M_tp v))), ((q 2), aI K 20 (M_number (M_cd v))), ((q 3), aZ K 5 (M_isTold (M_rd v))), ((q 4), aI K 80 (M_codeSort (M_cd v))), ((q 5), aI K 80 (M_codeA (M_cd v))), ((q 6), aI K 80 (M_codeB (M_cd v))), ((q 7), aI K 80 (M_codeC (M_cd v))), ((q 8), aI K 80 (M_codeName (M_cd v))), ((q 9), aI K 80 (M_codePlace (M_cd v))), ((q 10), aI K 80 (M_codeTo (M_cd v))), ((q 11), aI K 280 (M_labelName (M_cd v))), ((q 12), aI K 280 (M_labelAt (M_cd v))), ((q 13), aI K 64 (M_data (M_cd v))), ((q 14), aZ K 32 (M_hasData (M_rd v))), ((q 15), aI K 314 (M_s (M_rn v))), ((q 16), aI K 314 (M_aside (M_ex v))), ((q 17), aI K 314 (M_further (M_ex v))), ((q 18), aI K 314 (M_image (M_im v))), ((q 19), aI K 3 (M_sizeNow (M_rn v))), ((q 20), aI K 8 (M_aloneRegister (M_al v))), ((q 21), aI K 4 (M_aloneReal (M_al v))), ((q 22), aI K 32 (M_aloneMemory (M_al v))), ((q 23), aI K 999 (M_aloneOutput (M_al v)))]) rfl ?_
  refine r_iload_n (pc := 0) cx dX10_heldAt_0 2 rfl ?_
  refine r_if_ne (pc := 1) (tgt := 14) cx dX10_heldAt_1 (by decide) (fun h1 => ?_) (fun h1 => ?_)
  · have hf := ifn h1 hf
    refine r_iload_n (pc := 14) cx dX10_heldAt_14 2 rfl ?_
    refine r_iconst (pc := 15) cx dX10_heldAt_15 ic_1 ?_
    refine r_icmp_ne (pc := 16) (tgt := 29) cx dX10_heldAt_16 (by decide) (fun h2 => ?_) (fun h2 => ?_)
    · have hf := ifn h2 hf
      refine r_iload_n (pc := 29) cx dX10_heldAt_29 1 rfl ?_
      refine r_aload_n (pc := 30) cx dX10_heldAt_30 0 rfl ?_
      refine r_get (pc := 31) cx cf_X10 0 26 rfl (by decide) rfl wd_1342 dX10_heldAt_31 ?_
      refine r_bipush (pc := 34) cx dX10_heldAt_34 bp_113 ?_
      refine r_iald (pc := 36) cx 15 rfl (by decide) dX10_heldAt_36 ?_
      obtain ⟨J4, eJ4, hf⟩ := nm_of hf
      have hJ4 : ∀ (y3 : Int32), J4 y3 = some r_ → WW p l e rm_M_heldAt s m args below meth c D A 4 0 0 (MQ below (QI D K A r_ (cl_M K q v)) args s 0 0 A) ([((q 0), ob 9 [.int (M_thrown v), .ref (q 1), .int (M_taped (M_tp v)), .ref (q 2), .ref (q 3), .ref (q 4), .ref (q 5), .ref (q 6), .ref (q 7), .ref (q 8), .ref (q 9), .ref (q 10), .ref (q 11), .ref (q 12), .ref (q 13), .ref (q 14), .int (M_lines (M_rd v)), .int (M_size (M_rd v)), .int (M_at (M_rd v)), .int (M_place (M_rd v)), .int (M_sort (M_rd v)), .int (M_value (M_rd v)), .int (M_fault (M_rd v)), .int (M_faultPlace (M_rd v)), .int (M_lastFault (M_lf v)), .int (M_lastPlace (M_lf v)), .ref (q 15), .ref (q 16), .ref (q 17), .ref (q 18), .int (M_hasImage (M_im v)), .int (M_spanNow (M_rn v)), .ref (q 19), .int (M_placeThen (M_rn v)), .int (M_alonePlace (M_al v)), .int (M_aloneSteps (M_al v)), .int (M_aloneOut (M_al v)), .ref (q 20), .ref (q 21), .ref (q 22), .ref (q 23), .int (M_shotAlarm (M_ex v)), .int (M_drawn (M_ex v))]), ((q 1), aI K 700 (M_tape (M_tp v))), ((q 2), aI K 20 (M_number (M_cd v))), ((q 3), aZ K 5 (M_isTold (M_rd v))), ((q 4), aI K 80 (M_codeSort (M_cd v))), ((q 5), aI K 80 (M_codeA (M_cd v))), ((q 6), aI K 80 (M_codeB (M_cd v))), ((q 7), aI K 80 (M_codeC (M_cd v))), ((q 8), aI K 80 (M_codeName (M_cd v))), ((q 9), aI K 80 (M_codePlace (M_cd v))), ((q 10), aI K 80 (M_codeTo (M_cd v))), ((q 11), aI K 280 (M_labelName (M_cd v))), ((q 12), aI K 280 (M_labelAt (M_cd v))), ((q 13), aI K 64 (M_data (M_cd v))), ((q 14), aZ K 32 (M_hasData (M_rd v))), ((q 15), aI K 314 (M_s (M_rn v))), ((q 16), aI K 314 (M_aside (M_ex v))), ((q 17), aI K 314 (M_further (M_ex v))), ((q 18), aI K 314 (M_image (M_im v))), ((q 19), aI K 3 (M_sizeNow (M_rn v))), ((q 20), aI K 8 (M_aloneRegister (M_al v))), ((q 21), aI K 4 (M_aloneReal (M_al v))), ((q 22), aI K 32 (M_aloneMemory (M_al v))), ((q 23), aI K 999 (M_aloneOutput (M_al v)))]) ([(0, .ref (q 0)), (1, .int a1), (2, .int a2)]) ([.int y3]) 45 := by
        intro y3 hf
        rw [eJ4] at hf
        refine r_istore_n (pc := 45) (loc' := [(3, .int y3), (0, .ref (q 0)), (1, .int a1), (2, .int a2)]) cx dX10_heldAt_45 rfl (by decide) rfl ?_
        refine r_iload_n (pc := 46) cx dX10_heldAt_46 0 rfl ?_
        refine r_if_ne (pc := 47) (tgt := 54) cx dX10_heldAt_47 (by decide) (fun h5 => ?_) (fun h5 => ?_)
        · have hf := ifn h5 hf
          refine r_iload_n (pc := 54) cx dX10_heldAt_54 3 rfl ?_
          refine r_iconst (pc := 55) cx dX10_heldAt_55 ic_2 ?_
          refine r_icmp_ne (pc := 56) (tgt := 63) cx dX10_heldAt_56 (by decide) (fun h6 => ?_) (fun h6 => ?_)
          · have hf := ifn h6 hf
            refine r_iload_n (pc := 63) cx dX10_heldAt_63 3 rfl ?_
            refine r_iconst (pc := 64) cx dX10_heldAt_64 ic_3 ?_
            refine r_icmp_ne (pc := 65) (tgt := 81) cx dX10_heldAt_65 (by decide) (fun h7 => ?_) (fun h7 => ?_)
            · have hf := ifn h7 hf
              refine r_aload_n (pc := 81) cx dX10_heldAt_81 1 rfl ?_
              refine r_get (pc := 82) cx cf_X10 0 26 rfl (by decide) rfl wd_1342 dX10_heldAt_82 ?_
              refine r_sipush (pc := 85) cx dX10_heldAt_85 sp_138 ?_
              refine r_iload_n (pc := 88) cx dX10_heldAt_88 2 rfl ?_
              refine r_iadd (pc := 89) cx dX10_heldAt_89 ?_
              obtain ⟨h8, hf⟩ := chk_of hf
              refine r_iald (pc := 90) cx 15 rfl h8 dX10_heldAt_90 ?_
              cases hf
              exact r_iret (pc := 91) cx rfl rfl dX10_heldAt_91
            · have hf := ifp h7 hf
              refine r_aload_n (pc := 68) cx dX10_heldAt_68 1 rfl ?_
              refine r_get (pc := 69) cx cf_X10 0 26 rfl (by decide) rfl wd_1342 dX10_heldAt_69 ?_
              refine r_sipush (pc := 72) cx dX10_heldAt_72 sp_130 ?_
              refine r_iload_n (pc := 75) cx dX10_heldAt_75 2 rfl ?_
              refine r_iadd (pc := 76) cx dX10_heldAt_76 ?_
              obtain ⟨h9, hf⟩ := chk_of hf
              refine r_iald (pc := 77) cx 15 rfl h9 dX10_heldAt_77 ?_
              refine r_goto (pc := 78) (tgt := 91) cx dX10_heldAt_78 (by decide) ?_
              cases hf
              exact r_iret (pc := 91) cx rfl rfl dX10_heldAt_91
          · have hf := ifp h6 hf
            refine r_iconst (pc := 59) cx dX10_heldAt_59 ic_1 ?_
            refine r_goto (pc := 60) (tgt := 91) cx dX10_heldAt_60 (by decide) ?_
            cases hf
            exact r_iret (pc := 91) cx rfl rfl dX10_heldAt_91
        · have hf := ifp h5 hf
          refine r_iconst (pc := 50) cx dX10_heldAt_50 ic_0 ?_
          refine r_goto (pc := 51) (tgt := 91) cx dX10_heldAt_51 (by decide) ?_
          cases hf
          exact r_iret (pc := 91) cx rfl rfl dX10_heldAt_91
      refine r_icmp_ge (pc := 37) (tgt := 44) cx dX10_heldAt_37 (by decide) (fun h10 => ?_) (fun h10 => ?_)
      · have hf := ifp h10 hf
        refine r_iconst (pc := 44) cx dX10_heldAt_44 ic_0 ?_
        exact hJ4 _ hf
      · have hf := ifn h10 hf
        refine r_iconst (pc := 40) cx dX10_heldAt_40 ic_1 ?_
        refine r_goto (pc := 41) (tgt := 45) cx dX10_heldAt_41 (by decide) ?_
        exact hJ4 _ hf
    · have hf := ifp h2 hf
      refine r_aload_n (pc := 19) cx dX10_heldAt_19 0 rfl ?_
      refine r_get (pc := 20) cx cf_X10 0 26 rfl (by decide) rfl wd_1342 dX10_heldAt_20 ?_
      refine r_bipush (pc := 23) cx dX10_heldAt_23 bp_122 ?_
      refine r_iload_n (pc := 25) cx dX10_heldAt_25 1 rfl ?_
      refine r_iadd (pc := 26) cx dX10_heldAt_26 ?_
      obtain ⟨h11, hf⟩ := chk_of hf
      refine r_iald (pc := 27) cx 15 rfl h11 dX10_heldAt_27 ?_
      cases hf
      exact r_iret (pc := 28) cx rfl rfl dX10_heldAt_28
  · have hf := ifp h1 hf
    refine r_aload_n (pc := 4) cx dX10_heldAt_4 0 rfl ?_
    refine r_get (pc := 5) cx cf_X10 0 26 rfl (by decide) rfl wd_1342 dX10_heldAt_5 ?_
    refine r_bipush (pc := 8) cx dX10_heldAt_8 bp_114 ?_
    refine r_iload_n (pc := 10) cx dX10_heldAt_10 1 rfl ?_
    refine r_iadd (pc := 11) cx dX10_heldAt_11 ?_
    obtain ⟨h12, hf⟩ := chk_of hf
    refine r_iald (pc := 12) cx 15 rfl h12 dX10_heldAt_12 ?_
    cases hf
    exact r_iret (pc := 13) cx rfl rfl dX10_heldAt_13
theorem yv_X10_heldAt : YV yX10_heldAt cX10_heldAt 4 (some .int) 2 := ⟨⟨by decide +kernel, by decide +kernel, by decide +kernel⟩, wd_1759, wd_102, wd_1758, wd_78⟩
def f_M_queued (v : T_M) (a1 : Int32) (a2 : Int32) (a3 : Int32) : Option (Int32 × T_M) :=
  (if a3 < (0 : Int32) then (some ((0 : Int32), ((M_tp v), (M_rd v), (M_lf v), (M_cd v), (M_rn v), (M_ex v), (M_im v), (M_al v), (0 : Int32)))) else (if (0 : Int32) ≤ a2 then (if a1 = (0 : Int32) then (if ((M_s (M_rn v)) (86 : Int32).toNatClampNeg) ≤ a2 then (some ((0 : Int32), ((M_tp v), (M_rd v), (M_lf v), (M_cd v), (M_rn v), (M_ex v), (M_im v), (M_al v), (0 : Int32)))) else (if (2 : Int32) ≤ a3 then (some ((0 : Int32), ((M_tp v), (M_rd v), (M_lf v), (M_cd v), (M_rn v), (M_ex v), (M_im v), (M_al v), (0 : Int32)))) else (if a3 = (0 : Int32) then (if ix ((87 : Int32) + a2) 314 then (some (((M_s (M_rn v)) (((87 : Int32) + a2)).toNatClampNeg), ((M_tp v), (M_rd v), (M_lf v), (M_cd v), (M_rn v), (M_ex v), (M_im v), (M_al v), (0 : Int32)))) else none) else (if ix ((95 : Int32) + a2) 314 then (some (((M_s (M_rn v)) (((95 : Int32) + a2)).toNatClampNeg), ((M_tp v), (M_rd v), (M_lf v), (M_cd v), (M_rn v), (M_ex v), (M_im v), (M_al v), (0 : Int32)))) else none)))) else (if a1 = (1 : Int32) then (if ((M_s (M_rn v)) (103 : Int32).toNatClampNeg) ≤ a2 then (some ((0 : Int32), ((M_tp v), (M_rd v), (M_lf v), (M_cd v), (M_rn v), (M_ex v), (M_im v), (M_al v), (0 : Int32)))) else (if a3 = (0 : Int32) then (if ix ((104 : Int32) + a2) 314 then (some (((M_s (M_rn v)) (((104 : Int32) + a2)).toNatClampNeg), ((M_tp v), (M_rd v), (M_lf v), (M_cd v), (M_rn v), (M_ex v), (M_im v), (M_al v), (0 : Int32)))) else none) else (some ((0 : Int32), ((M_tp v), (M_rd v), (M_lf v), (M_cd v), (M_rn v), (M_ex v), (M_im v), (M_al v), (0 : Int32)))))) else (if a1 = (2 : Int32) then (if ((M_s (M_rn v)) (112 : Int32).toNatClampNeg) ≤ a2 then (some ((0 : Int32), ((M_tp v), (M_rd v), (M_lf v), (M_cd v), (M_rn v), (M_ex v), (M_im v), (M_al v), (0 : Int32)))) else (if (5 : Int32) ≤ a3 then (some ((0 : Int32), ((M_tp v), (M_rd v), (M_lf v), (M_cd v), (M_rn v), (M_ex v), (M_im v), (M_al v), (0 : Int32)))) else (bd (f_M_heldAt ((M_tp v), (M_rd v), (M_lf v), (M_cd v), (M_rn v), (M_ex v), (M_im v), (M_al v), (0 : Int32)) a2 a3) fun (r8 : Int32) => (some (r8, ((M_tp v), (M_rd v), (M_lf v), (M_cd v), (M_rn v), (M_ex v), (M_im v), (M_al v), (0 : Int32))))))) else (some ((0 : Int32), ((M_tp v), (M_rd v), (M_lf v), (M_cd v), (M_rn v), (M_ex v), (M_im v), (M_al v), (0 : Int32))))))) else (some ((0 : Int32), ((M_tp v), (M_rd v), (M_lf v), (M_cd v), (M_rn v), (M_ex v), (M_im v), (M_al v), (0 : Int32))))))
abbrev rm_M_queued : Room := { frames := 1, cells := 0, slots := 0, locals := 23 }
set_option maxRecDepth 100000 in
set_option maxHeartbeats 4000000 in
theorem m_M_queued (l : Launch) (D : va_G) (K : Nat → ClassId) (q : Nat → Nat) (v : T_M) (a1 : Int32) (a2 : Int32) (a3 : Int32) {r_ : Int32} {o_v : T_M} (hf : f_M_queued v a1 a2 a3 = some (r_, o_v)) : MI l yX10_queued cX10_queued 4 (some .int) rm_M_queued D K [.ref (q 0), .int a1, .int a2, .int a3] (cl_M K q v) r_ (cl_M K q o_v) := by
  refine MI_of (loc0 := [(0, .ref (q 0)), (1, .int a1), (2, .int a2), (3, .int a3)]) (by decide +kernel) rfl (Nat.le_of_ble_eq_true rfl) ?_
  intro p e s m args below meth c A cx
  unfold f_M_queued at hf
  refine r_ws (ws' := [((q 0), ob 9 [.int (M_thrown v), .ref (q 1), .int (M_taped (M_tp v)), .ref (q 2), .ref (q 3), .ref (q 4), .ref (q 5), .ref (q 6), .ref (q 7), .ref (q 8), .ref (q 9), .ref (q 10), .ref (q 11), .ref (q 12), .ref (q 13), .ref (q 14), .int (M_lines (M_rd v)), .int (M_size (M_rd v)), .int (M_at (M_rd v)), .int (M_place (M_rd v)), .int (M_sort (M_rd v)), .int (M_value (M_rd v)), .int (M_fault (M_rd v)), .int (M_faultPlace (M_rd v)), .int (M_lastFault (M_lf v)), .int (M_lastPlace (M_lf v)), .ref (q 15), .ref (q 16), .ref (q 17), .ref (q 18), .int (M_hasImage (M_im v)), .int (M_spanNow (M_rn v)), .ref (q 19), .int (M_placeThen (M_rn v)), .int (M_alonePlace (M_al v)), .int (M_aloneSteps (M_al v)), .int (M_aloneOut (M_al v)), .ref (q 20), .ref (q 21), .ref (q 22), .ref (q 23), .int (M_shotAlarm (M_ex v)), .int (M_drawn (M_ex v))]), ((q 1), aI K 700 (M_tape (M_tp v))), ((q 2), aI K 20 (M_number (M_cd v))), ((q 3), aZ K 5 (M_isTold (M_rd v))), ((q 4), aI K 80 (M_codeSort (M_cd v))), ((q 5), aI K 80 (M_codeA (M_cd v))), ((q 6), aI K 80 (M_codeB (M_cd v))), ((q 7), aI K 80 (M_codeC (M_cd v))), ((q 8), aI K 80 (M_codeName (M_cd v))), ((q 9), aI K 80 (M_codePlace (M_cd v))), ((q 10), aI K 80 (M_codeTo (M_cd v))), ((q 11), aI K 280 (M_labelName (M_cd v))), ((q 12), aI K 280 (M_labelAt (M_cd v))), ((q 13), aI K 64 (M_data (M_cd v))), ((q 14), aZ K 32 (M_hasData (M_rd v))), ((q 15), aI K 314 (M_s (M_rn v))), ((q 16), aI K 314 (M_aside (M_ex v))), ((q 17), aI K 314 (M_further (M_ex v))), ((q 18), aI K 314 (M_image (M_im v))), ((q 19), aI K 3 (M_sizeNow (M_rn v))), ((q 20), aI K 8 (M_aloneRegister (M_al v))), ((q 21), aI K 4 (M_aloneReal (M_al v))), ((q 22), aI K 32 (M_aloneMemory (M_al v))), ((q 23), aI K 999 (M_aloneOutput (M_al v)))]) rfl ?_
  refine r_aload_n (pc := 0) cx dX10_queued_0 0 rfl ?_
  refine r_iconst (pc := 1) cx dX10_queued_1 ic_0 ?_
  refine r_putI (pc := 2) (ws' := [((q 0), ob 9 [.int (0 : Int32), .ref (q 1), .int (M_taped (M_tp v)), .ref (q 2), .ref (q 3), .ref (q 4), .ref (q 5), .ref (q 6), .ref (q 7), .ref (q 8), .ref (q 9), .ref (q 10), .ref (q 11), .ref (q 12), .ref (q 13), .ref (q 14), .int (M_lines (M_rd v)), .int (M_size (M_rd v)), .int (M_at (M_rd v)), .int (M_place (M_rd v)), .int (M_sort (M_rd v)), .int (M_value (M_rd v)), .int (M_fault (M_rd v)), .int (M_faultPlace (M_rd v)), .int (M_lastFault (M_lf v)), .int (M_lastPlace (M_lf v)), .ref (q 15), .ref (q 16), .ref (q 17), .ref (q 18), .int (M_hasImage (M_im v)), .int (M_spanNow (M_rn v)), .ref (q 19), .int (M_placeThen (M_rn v)), .int (M_alonePlace (M_al v)), .int (M_aloneSteps (M_al v)), .int (M_aloneOut (M_al v)), .ref (q 20), .ref (q 21), .ref (q 22), .ref (q 23), .int (M_shotAlarm (M_ex v)), .int (M_drawn (M_ex v))]), ((q 1), aI K 700 (M_tape (M_tp v))), ((q 2), aI K 20 (M_number (M_cd v))), ((q 3), aZ K 5 (M_isTold (M_rd v))), ((q 4), aI K 80 (M_codeSort (M_cd v))), ((q 5), aI K 80 (M_codeA (M_cd v))), ((q 6), aI K 80 (M_codeB (M_cd v))), ((q 7), aI K 80 (M_codeC (M_cd v))), ((q 8), aI K 80 (M_codeName (M_cd v))), ((q 9), aI K 80 (M_codePlace (M_cd v))), ((q 10), aI K 80 (M_codeTo (M_cd v))), ((q 11), aI K 280 (M_labelName (M_cd v))), ((q 12), aI K 280 (M_labelAt (M_cd v))), ((q 13), aI K 64 (M_data (M_cd v))), ((q 14), aZ K 32 (M_hasData (M_rd v))), ((q 15), aI K 314 (M_s (M_rn v))), ((q 16), aI K 314 (M_aside (M_ex v))), ((q 17), aI K 314 (M_further (M_ex v))), ((q 18), aI K 314 (M_image (M_im v))), ((q 19), aI K 3 (M_sizeNow (M_rn v))), ((q 20), aI K 8 (M_aloneRegister (M_al v))), ((q 21), aI K 4 (M_aloneReal (M_al v))), ((q 22), aI K 32 (M_aloneMemory (M_al v))), ((q 23), aI K 999 (M_aloneOutput (M_al v)))]) cx cf_X10 0 0 rfl (by decide) (Nat.le_of_ble_eq_true rfl) rfl pfd_I wd_1316 dX10_queued_2 rfl ?_
  refine r_iload_n (pc := 5) cx dX10_queued_5 3 rfl ?_
  refine r_if_lt (pc := 6) (tgt := 13) cx dX10_queued_6 (by decide) (fun h1 => ?_) (fun h1 => ?_)
  · have hf := ifp h1 hf
    refine r_iconst (pc := 13) cx dX10_queued_13 ic_0 ?_
    cases hf
    exact r_iret (pc := 14) cx rfl rfl dX10_queued_14
  · have hf := ifn h1 hf
    refine r_iload_n (pc := 9) cx dX10_queued_9 2 rfl ?_
    refine r_if_ge (pc := 10) (tgt := 15) cx dX10_queued_10 (by decide) (fun h2 => ?_) (fun h2 => ?_)
    · have hf := ifp h2 hf
      refine r_iload_n (pc := 15) cx dX10_queued_15 1 rfl ?_
      refine r_if_ne (pc := 16) (tgt := 60) cx dX10_queued_16 (by decide) (fun h3 => ?_) (fun h3 => ?_)
      · have hf := ifn h3 hf
        refine r_iload_n (pc := 60) cx dX10_queued_60 1 rfl ?_
        refine r_iconst (pc := 61) cx dX10_queued_61 ic_1 ?_
        refine r_icmp_ne (pc := 62) (tgt := 94) cx dX10_queued_62 (by decide) (fun h4 => ?_) (fun h4 => ?_)
        · have hf := ifn h4 hf
          refine r_iload_n (pc := 94) cx dX10_queued_94 1 rfl ?_
          refine r_iconst (pc := 95) cx dX10_queued_95 ic_2 ?_
          refine r_icmp_ne (pc := 96) (tgt := 124) cx dX10_queued_96 (by decide) (fun h5 => ?_) (fun h5 => ?_)
          · have hf := ifn h5 hf
            refine r_iconst (pc := 124) cx dX10_queued_124 ic_0 ?_
            cases hf
            exact r_iret (pc := 125) cx rfl rfl dX10_queued_125
          · have hf := ifp h5 hf
            refine r_iload_n (pc := 99) cx dX10_queued_99 2 rfl ?_
            refine r_aload_n (pc := 100) cx dX10_queued_100 0 rfl ?_
            refine r_get (pc := 101) cx cf_X10 0 26 rfl (by decide) rfl wd_1342 dX10_queued_101 ?_
            refine r_bipush (pc := 104) cx dX10_queued_104 bp_112 ?_
            refine r_iald (pc := 106) cx 15 rfl (by decide) dX10_queued_106 ?_
            refine r_icmp_ge (pc := 107) (tgt := 124) cx dX10_queued_107 (by decide) (fun h6 => ?_) (fun h6 => ?_)
            · have hf := ifp h6 hf
              refine r_iconst (pc := 124) cx dX10_queued_124 ic_0 ?_
              cases hf
              exact r_iret (pc := 125) cx rfl rfl dX10_queued_125
            · have hf := ifn h6 hf
              refine r_iload_n (pc := 110) cx dX10_queued_110 3 rfl ?_
              refine r_iconst (pc := 111) cx dX10_queued_111 ic_5 ?_
              refine r_icmp_ge (pc := 112) (tgt := 124) cx dX10_queued_112 (by decide) (fun h7 => ?_) (fun h7 => ?_)
              · have hf := ifp h7 hf
                refine r_iconst (pc := 124) cx dX10_queued_124 ic_0 ?_
                cases hf
                exact r_iret (pc := 125) cx rfl rfl dX10_queued_125
              · have hf := ifn h7 hf
                refine r_aload_n (pc := 115) cx dX10_queued_115 0 rfl ?_
                refine r_iload_n (pc := 116) cx dX10_queued_116 2 rfl ?_
                refine r_iload_n (pc := 117) cx dX10_queued_117 3 rfl ?_
                obtain ⟨r8, hc9, hf⟩ := bd_of hf
                refine r_Vi (pc := 118) (ws' := [((q 0), ob 9 [.int (0 : Int32), .ref (q 1), .int (M_taped (M_tp v)), .ref (q 2), .ref (q 3), .ref (q 4), .ref (q 5), .ref (q 6), .ref (q 7), .ref (q 8), .ref (q 9), .ref (q 10), .ref (q 11), .ref (q 12), .ref (q 13), .ref (q 14), .int (M_lines (M_rd v)), .int (M_size (M_rd v)), .int (M_at (M_rd v)), .int (M_place (M_rd v)), .int (M_sort (M_rd v)), .int (M_value (M_rd v)), .int (M_fault (M_rd v)), .int (M_faultPlace (M_rd v)), .int (M_lastFault (M_lf v)), .int (M_lastPlace (M_lf v)), .ref (q 15), .ref (q 16), .ref (q 17), .ref (q 18), .int (M_hasImage (M_im v)), .int (M_spanNow (M_rn v)), .ref (q 19), .int (M_placeThen (M_rn v)), .int (M_alonePlace (M_al v)), .int (M_aloneSteps (M_al v)), .int (M_aloneOut (M_al v)), .ref (q 20), .ref (q 21), .ref (q 22), .ref (q 23), .int (M_shotAlarm (M_ex v)), .int (M_drawn (M_ex v))]), ((q 1), aI K 700 (M_tape (M_tp v))), ((q 2), aI K 20 (M_number (M_cd v))), ((q 3), aZ K 5 (M_isTold (M_rd v))), ((q 4), aI K 80 (M_codeSort (M_cd v))), ((q 5), aI K 80 (M_codeA (M_cd v))), ((q 6), aI K 80 (M_codeB (M_cd v))), ((q 7), aI K 80 (M_codeC (M_cd v))), ((q 8), aI K 80 (M_codeName (M_cd v))), ((q 9), aI K 80 (M_codePlace (M_cd v))), ((q 10), aI K 80 (M_codeTo (M_cd v))), ((q 11), aI K 280 (M_labelName (M_cd v))), ((q 12), aI K 280 (M_labelAt (M_cd v))), ((q 13), aI K 64 (M_data (M_cd v))), ((q 14), aZ K 32 (M_hasData (M_rd v))), ((q 15), aI K 314 (M_s (M_rn v))), ((q 16), aI K 314 (M_aside (M_ex v))), ((q 17), aI K 314 (M_further (M_ex v))), ((q 18), aI K 314 (M_image (M_im v))), ((q 19), aI K 3 (M_sizeNow (M_rn v))), ((q 20), aI K 8 (M_aloneRegister (M_al v))), ((q 21), aI K 4 (M_aloneReal (M_al v))), ((q 22), aI K 32 (M_aloneMemory (M_al v))), ((q 23), aI K 999 (M_aloneOutput (M_al v)))]) cx [.int a2, .int a3] [] [0, 1, 2, 3, 4, 5, 6, 7, 8, 9, 10, 11, 12, 13, 14, 15, 16, 17, 18, 19, 20, 21, 22, 23] (m_M_heldAt l D K q ((M_tp v), (M_rd v), (M_lf v), (M_cd v), (M_rn v), (M_ex v), (M_im v), (M_al v), (0 : Int32)) a2 a3 hc9) yv_X10_heldAt wd_1756 ⟨rfl, rfl⟩ (by decide) rfl rfl rfl (by decide) 0 rfl rfl rfl (Nat.le_of_ble_eq_true rfl) dX10_queued_118 ?_
                refine r_goto (pc := 121) (tgt := 125) cx dX10_queued_121 (by decide) ?_
                cases hf
                exact r_iret (pc := 125) cx rfl rfl dX10_queued_125
        · have hf := ifp h4 hf
          refine r_iload_n (pc := 65) cx dX10_queued_65 2 rfl ?_
          refine r_aload_n (pc := 66) cx dX10_queued_66 0 rfl ?_
          refine r_get (pc := 67) cx cf_X10 0 26 rfl (by decide) rfl wd_1342 dX10_queued_67 ?_
          refine r_bipush (pc := 70) cx dX10_queued_70 bp_103 ?_
          refine r_iald (pc := 72) cx 15 rfl (by decide) dX10_queued_72 ?_
          refine r_icmp_ge (pc := 73) (tgt := 92) cx dX10_queued_73 (by decide) (fun h10 => ?_) (fun h10 => ?_)
          · have hf := ifp h10 hf
            refine r_iconst (pc := 92) cx dX10_queued_92 ic_0 ?_
            cases hf
            exact r_iret (pc := 93) cx rfl rfl dX10_queued_93
          · have hf := ifn h10 hf
            refine r_iload_n (pc := 76) cx dX10_queued_76 3 rfl ?_
            refine r_if_ne (pc := 77) (tgt := 92) cx dX10_queued_77 (by decide) (fun h11 => ?_) (fun h11 => ?_)
            · have hf := ifn h11 hf
              refine r_iconst (pc := 92) cx dX10_queued_92 ic_0 ?_
              cases hf
              exact r_iret (pc := 93) cx rfl rfl dX10_queued_93
            · have hf := ifp h11 hf
              refine r_aload_n (pc := 80) cx dX10_queued_80 0 rfl ?_
              refine r_get (pc := 81) cx cf_X10 0 26 rfl (by decide) rfl wd_1342 dX10_queued_81 ?_
              refine r_bipush (pc := 84) cx dX10_queued_84 bp_104 ?_
              refine r_iload_n (pc := 86) cx dX10_queued_86 2 rfl ?_
              refine r_iadd (pc := 87) cx dX10_queued_87 ?_
              obtain ⟨h12, hf⟩ := chk_of hf
              refine r_iald (pc := 88) cx 15 rfl h12 dX10_queued_88 ?_
              refine r_goto (pc := 89) (tgt := 93) cx dX10_queued_89 (by decide) ?_
              cases hf
              exact r_iret (pc := 93) cx rfl rfl dX10_queued_93
      · have hf := ifp h3 hf
        refine r_iload_n (pc := 19) cx dX10_queued_19 2 rfl ?_
        refine r_aload_n (pc := 20) cx dX10_queued_20 0 rfl ?_
        refine r_get (pc := 21) cx cf_X10 0 26 rfl (by decide) rfl wd_1342 dX10_queued_21 ?_
        refine r_bipush (pc := 24) cx dX10_queued_24 bp_86 ?_
        refine r_iald (pc := 26) cx 15 rfl (by decide) dX10_queued_26 ?_
        refine r_icmp_ge (pc := 27) (tgt := 58) cx dX10_queued_27 (by decide) (fun h13 => ?_) (fun h13 => ?_)
        · have hf := ifp h13 hf
          refine r_iconst (pc := 58) cx dX10_queued_58 ic_0 ?_
          cases hf
          exact r_iret (pc := 59) cx rfl rfl dX10_queued_59
        · have hf := ifn h13 hf
          refine r_iload_n (pc := 30) cx dX10_queued_30 3 rfl ?_
          refine r_iconst (pc := 31) cx dX10_queued_31 ic_2 ?_
          refine r_icmp_ge (pc := 32) (tgt := 58) cx dX10_queued_32 (by decide) (fun h14 => ?_) (fun h14 => ?_)
          · have hf := ifp h14 hf
            refine r_iconst (pc := 58) cx dX10_queued_58 ic_0 ?_
            cases hf
            exact r_iret (pc := 59) cx rfl rfl dX10_queued_59
          · have hf := ifn h14 hf
            refine r_aload_n (pc := 35) cx dX10_queued_35 0 rfl ?_
            refine r_get (pc := 36) cx cf_X10 0 26 rfl (by decide) rfl wd_1342 dX10_queued_36 ?_
            refine r_iload_n (pc := 39) cx dX10_queued_39 3 rfl ?_
            refine r_if_ne (pc := 40) (tgt := 50) cx dX10_queued_40 (by decide) (fun h15 => ?_) (fun h15 => ?_)
            · have hf := ifn h15 hf
              refine r_bipush (pc := 50) cx dX10_queued_50 bp_95 ?_
              refine r_iload_n (pc := 52) cx dX10_queued_52 2 rfl ?_
              refine r_iadd (pc := 53) cx dX10_queued_53 ?_
              obtain ⟨h16, hf⟩ := chk_of hf
              refine r_iald (pc := 54) cx 15 rfl h16 dX10_queued_54 ?_
              refine r_goto (pc := 55) (tgt := 59) cx dX10_queued_55 (by decide) ?_
              cases hf
              exact r_iret (pc := 59) cx rfl rfl dX10_queued_59
            · have hf := ifp h15 hf
              refine r_bipush (pc := 43) cx dX10_queued_43 bp_87 ?_
              refine r_iload_n (pc := 45) cx dX10_queued_45 2 rfl ?_
              refine r_iadd (pc := 46) cx dX10_queued_46 ?_
              refine r_goto (pc := 47) (tgt := 54) cx dX10_queued_47 (by decide) ?_
              obtain ⟨h17, hf⟩ := chk_of hf
              refine r_iald (pc := 54) cx 15 rfl h17 dX10_queued_54 ?_
              refine r_goto (pc := 55) (tgt := 59) cx dX10_queued_55 (by decide) ?_
              cases hf
              exact r_iret (pc := 59) cx rfl rfl dX10_queued_59
    · have hf := ifn h2 hf
      refine r_iconst (pc := 13) cx dX10_queued_13 ic_0 ?_
      cases hf
      exact r_iret (pc := 14) cx rfl rfl dX10_queued_14
theorem yv_X10_queued : YV yX10_queued cX10_queued 4 (some .int) 3 := ⟨⟨by decide +kernel, by decide +kernel, by decide +kernel⟩, wd_1755, wd_102, wd_1753, wd_1754⟩
def f_M_next (v : T_M) : Option (Int32 × T_M) :=
  (bd (f_M_isOver ((M_tp v), (M_rd v), (M_lf v), (M_cd v), (M_rn v), (M_ex v), (M_im v), (M_al v), (0 : Int32))) fun (r1 : Int32) => (if r1 = (0 : Int32) then (bd (f_M_trailerWhy ((M_tp v), (M_rd v), (M_lf v), (M_cd v), (M_rn v), (M_ex v), (M_im v), (M_al v), (0 : Int32))) fun (r4 : Int32) => (nm (fun (y6 : Int32) => ((nm ((M_s (M_rn v)) (221 : Int32).toNatClampNeg) fun (x8 : Int32) => (bd (f_M_copies (M_s (M_rn v)) (M_aside (M_ex v))) fun (v9 : (Nat → Int32)) => (bd2 (f_M_turns ((M_tp v), (M_rd v), (M_lf v), (M_cd v), (M_rn v), (v9, (M_further (M_ex v)), (M_shotAlarm (M_ex v)), (M_drawn (M_ex v))), (M_im v), (M_al v), (0 : Int32)) (0 : Int32)) fun (r11 : Int32) (v12 : T_M) => (nm (fun (y14 : Int32) => ((bd (f_M_copies (M_aside (M_ex v12)) (M_s (M_rn v12))) fun (v16 : (Nat → Int32)) => (some (y14, ((M_tp v12), (M_rd v12), (M_lf v12), (M_cd v12), (v16, (M_spanNow (M_rn v12)), (M_sizeNow (M_rn v12)), (M_placeThen (M_rn v12))), (M_ex v12), (M_im v12), (M_al v12), (M_thrown v12))))) : Option (Int32 × T_M))) fun J15 => (if ((M_s (M_rn v12)) (221 : Int32).toNatClampNeg) ≤ x8 then (J15 y6) else (J15 ((10 : Int32) + ((M_s (M_rn v12)) (233 : Int32).toNatClampNeg)))))))) : Option (Int32 × T_M))) fun J7 => (if r4 = (0 : Int32) then (J7 (0 : Int32)) else (bd (f_M_leaderWhy ((M_tp v), (M_rd v), (M_lf v), (M_cd v), (M_rn v), (M_ex v), (M_im v), (M_al v), (0 : Int32))) fun (r20 : Int32) => (if r20 = (0 : Int32) then (J7 (1 : Int32)) else (J7 (2 : Int32))))))) else (some ((-2 : Int32), ((M_tp v), (M_rd v), (M_lf v), (M_cd v), (M_rn v), (M_ex v), (M_im v), (M_al v), (0 : Int32))))))
abbrev rm_M_next : Room := { frames := 6, cells := 0, slots := 0, locals := 147 }
set_option maxRecDepth 100000 in
set_option maxHeartbeats 4000000 in
theorem m_M_next (l : Launch) (D : va_G) (K : Nat → ClassId) (q : Nat → Nat) (v : T_M) {r_ : Int32} {o_v : T_M} (hf : f_M_next v = some (r_, o_v)) : MI l yX10_next cX10_next 4 (some .int) rm_M_next D K [.ref (q 0)] (cl_M K q v) r_ (cl_M K q o_v) := by
  refine MI_of (loc0 := [(0, .ref (q 0))]) (by decide +kernel) rfl (Nat.le_of_ble_eq_true rfl) ?_
  intro p e s m args below meth c A cx
  unfold f_M_next at hf
  refine r_ws (ws' := [((q 0), ob 9 [.int (M_thrown v), .ref (q 1), .int (M_taped (M_tp v)), .ref (q 2), .ref (q 3), .ref (q 4), .ref (q 5), .ref (q 6), .ref (q 7), .ref (q 8), .ref (q 9), .ref (q 10), .ref (q 11), .ref (q 12), .ref (q 13), .ref (q 14), .int (M_lines (M_rd v)), .int (M_size (M_rd v)), .int (M_at (M_rd v)), .int (M_place (M_rd v)), .int (M_sort (M_rd v)), .int (M_value (M_rd v)), .int (M_fault (M_rd v)), .int (M_faultPlace (M_rd v)), .int (M_lastFault (M_lf v)), .int (M_lastPlace (M_lf v)), .ref (q 15), .ref (q 16), .ref (q 17), .ref (q 18), .int (M_hasImage (M_im v)), .int (M_spanNow (M_rn v)), .ref (q 19), .int (M_placeThen (M_rn v)), .int (M_alonePlace (M_al v)), .int (M_aloneSteps (M_al v)), .int (M_aloneOut (M_al v)), .ref (q 20), .ref (q 21), .ref (q 22), .ref (q 23), .int (M_shotAlarm (M_ex v)), .int (M_drawn (M_ex v))]), ((q 1), aI K 700 (M_tape (M_tp v))), ((q 2), aI K 20 (M_number (M_cd v))), ((q 3), aZ K 5 (M_isTold (M_rd v))), ((q 4), aI K 80 (M_codeSort (M_cd v))), ((q 5), aI K 80 (M_codeA (M_cd v))), ((q 6), aI K 80 (M_codeB (M_cd v))), ((q 7), aI K 80 (M_codeC (M_cd v))), ((q 8), aI K 80 (M_codeName (M_cd v))), ((q 9), aI K 80 (M_codePlace (M_cd v))), ((q 10), aI K 80 (M_codeTo (M_cd v))), ((q 11), aI K 280 (M_labelName (M_cd v))), ((q 12), aI K 280 (M_labelAt (M_cd v))), ((q 13), aI K 64 (M_data (M_cd v))), ((q 14), aZ K 32 (M_hasData (M_rd v))), ((q 15), aI K 314 (M_s (M_rn v))), ((q 16), aI K 314 (M_aside (M_ex v))), ((q 17), aI K 314 (M_further (M_ex v))), ((q 18), aI K 314 (M_image (M_im v))), ((q 19), aI K 3 (M_sizeNow (M_rn v))), ((q 20), aI K 8 (M_aloneRegister (M_al v))), ((q 21), aI K 4 (M_aloneReal (M_al v))), ((q 22), aI K 32 (M_aloneMemory (M_al v))), ((q 23), aI K 999 (M_aloneOutput (M_al v)))]) rfl ?_
  refine r_aload_n (pc := 0) cx dX10_next_0 0 rfl ?_
  refine r_iconst (pc := 1) cx dX10_next_1 ic_0 ?_
  refine r_putI (pc := 2) (ws' := [((q 0), ob 9 [.int (0 : Int32), .ref (q 1), .int (M_taped (M_tp v)), .ref (q 2), .ref (q 3), .ref (q 4), .ref (q 5), .ref (q 6), .ref (q 7), .ref (q 8), .ref (q 9), .ref (q 10), .ref (q 11), .ref (q 12), .ref (q 13), .ref (q 14), .int (M_lines (M_rd v)), .int (M_size (M_rd v)), .int (M_at (M_rd v)), .int (M_place (M_rd v)), .int (M_sort (M_rd v)), .int (M_value (M_rd v)), .int (M_fault (M_rd v)), .int (M_faultPlace (M_rd v)), .int (M_lastFault (M_lf v)), .int (M_lastPlace (M_lf v)), .ref (q 15), .ref (q 16), .ref (q 17), .ref (q 18), .int (M_hasImage (M_im v)), .int (M_spanNow (M_rn v)), .ref (q 19), .int (M_placeThen (M_rn v)), .int (M_alonePlace (M_al v)), .int (M_aloneSteps (M_al v)), .int (M_aloneOut (M_al v)), .ref (q 20), .ref (q 21), .ref (q 22), .ref (q 23), .int (M_shotAlarm (M_ex v)), .int (M_drawn (M_ex v))]), ((q 1), aI K 700 (M_tape (M_tp v))), ((q 2), aI K 20 (M_number (M_cd v))), ((q 3), aZ K 5 (M_isTold (M_rd v))), ((q 4), aI K 80 (M_codeSort (M_cd v))), ((q 5), aI K 80 (M_codeA (M_cd v))), ((q 6), aI K 80 (M_codeB (M_cd v))), ((q 7), aI K 80 (M_codeC (M_cd v))), ((q 8), aI K 80 (M_codeName (M_cd v))), ((q 9), aI K 80 (M_codePlace (M_cd v))), ((q 10), aI K 80 (M_codeTo (M_cd v))), ((q 11), aI K 280 (M_labelName (M_cd v))), ((q 12), aI K 280 (M_labelAt (M_cd v))), ((q 13), aI K 64 (M_data (M_cd v))), ((q 14), aZ K 32 (M_hasData (M_rd v))), ((q 15), aI K 314 (M_s (M_rn v))), ((q 16), aI K 314 (M_aside (M_ex v))), ((q 17), aI K 314 (M_further (M_ex v))), ((q 18), aI K 314 (M_image (M_im v))), ((q 19), aI K 3 (M_sizeNow (M_rn v))), ((q 20), aI K 8 (M_aloneRegister (M_al v))), ((q 21), aI K 4 (M_aloneReal (M_al v))), ((q 22), aI K 32 (M_aloneMemory (M_al v))), ((q 23), aI K 999 (M_aloneOutput (M_al v)))]) cx cf_X10 0 0 rfl (by decide) (Nat.le_of_ble_eq_true rfl) rfl pfd_I wd_1316 dX10_next_2 rfl ?_
  refine r_aload_n (pc := 5) cx dX10_next_5 0 rfl ?_
  obtain ⟨r1, hc2, hf⟩ := bd_of hf
  refine r_Vi (pc := 6) (ws' := [((q 0), ob 9 [.int (0 : Int32), .ref (q 1), .int (M_taped (M_tp v)), .ref (q 2), .ref (q 3), .ref (q 4), .ref (q 5), .ref (q 6), .ref (q 7), .ref (q 8), .ref (q 9), .ref (q 10), .ref (q 11), .ref (q 12), .ref (q 13), .ref (q 14), .int (M_lines (M_rd v)), .int (M_size (M_rd v)), .int (M_at (M_rd v)), .int (M_place (M_rd v)), .int (M_sort (M_rd v)), .int (M_value (M_rd v)), .int (M_fault (M_rd v)), .int (M_faultPlace (M_rd v)), .int (M_lastFault (M_lf v)), .int (M_lastPlace (M_lf v)), .ref (q 15), .ref (q 16), .ref (q 17), .ref (q 18), .int (M_hasImage (M_im v)), .int (M_spanNow (M_rn v)), .ref (q 19), .int (M_placeThen (M_rn v)), .int (M_alonePlace (M_al v)), .int (M_aloneSteps (M_al v)), .int (M_aloneOut (M_al v)), .ref (q 20), .ref (q 21), .ref (q 22), .ref (q 23), .int (M_shotAlarm (M_ex v)), .int (M_drawn (M_ex v))]), ((q 1), aI K 700 (M_tape (M_tp v))), ((q 2), aI K 20 (M_number (M_cd v))), ((q 3), aZ K 5 (M_isTold (M_rd v))), ((q 4), aI K 80 (M_codeSort (M_cd v))), ((q 5), aI K 80 (M_codeA (M_cd v))), ((q 6), aI K 80 (M_codeB (M_cd v))), ((q 7), aI K 80 (M_codeC (M_cd v))), ((q 8), aI K 80 (M_codeName (M_cd v))), ((q 9), aI K 80 (M_codePlace (M_cd v))), ((q 10), aI K 80 (M_codeTo (M_cd v))), ((q 11), aI K 280 (M_labelName (M_cd v))), ((q 12), aI K 280 (M_labelAt (M_cd v))), ((q 13), aI K 64 (M_data (M_cd v))), ((q 14), aZ K 32 (M_hasData (M_rd v))), ((q 15), aI K 314 (M_s (M_rn v))), ((q 16), aI K 314 (M_aside (M_ex v))), ((q 17), aI K 314 (M_further (M_ex v))), ((q 18), aI K 314 (M_image (M_im v))), ((q 19), aI K 3 (M_sizeNow (M_rn v))), ((q 20), aI K 8 (M_aloneRegister (M_al v))), ((q 21), aI K 4 (M_aloneReal (M_al v))), ((q 22), aI K 32 (M_aloneMemory (M_al v))), ((q 23), aI K 999 (M_aloneOutput (M_al v)))]) cx [] [] [0, 1, 2, 3, 4, 5, 6, 7, 8, 9, 10, 11, 12, 13, 14, 15, 16, 17, 18, 19, 20, 21, 22, 23] (m_M_isOver l D K q ((M_tp v), (M_rd v), (M_lf v), (M_cd v), (M_rn v), (M_ex v), (M_im v), (M_al v), (0 : Int32)) hc2) yv_X10_isOver wd_1572 ⟨rfl, rfl⟩ (by decide) rfl rfl rfl (by decide) 0 rfl rfl rfl (Nat.le_of_ble_eq_true rfl) dX10_next_6 ?_
  refine r_if_eq (pc := 9) (tgt := 15) cx dX10_next_9 (by decide) (fun h3 => ?_) (fun h3 => ?_)
  · have hf := ifp h3 hf
    refine r_aload_n (pc := 15) cx dX10_next_15 0 rfl ?_
    obtain ⟨r4, hc5, hf⟩ := bd_of hf
    refine r_Vi (pc := 16) (ws' := [((q 0), ob 9 [.int (0 : Int32), .ref (q 1), .int (M_taped (M_tp v)), .ref (q 2), .ref (q 3), .ref (q 4), .ref (q 5), .ref (q 6), .ref (q 7), .ref (q 8), .ref (q 9), .ref (q 10), .ref (q 11), .ref (q 12), .ref (q 13), .ref (q 14), .int (M_lines (M_rd v)), .int (M_size (M_rd v)), .int (M_at (M_rd v)), .int (M_place (M_rd v)), .int (M_sort (M_rd v)), .int (M_value (M_rd v)), .int (M_fault (M_rd v)), .int (M_faultPlace (M_rd v)), .int (M_lastFault (M_lf v)), .int (M_lastPlace (M_lf v)), .ref (q 15), .ref (q 16), .ref (q 17), .ref (q 18), .int (M_hasImage (M_im v)), .int (M_spanNow (M_rn v)), .ref (q 19), .int (M_placeThen (M_rn v)), .int (M_alonePlace (M_al v)), .int (M_aloneSteps (M_al v)), .int (M_aloneOut (M_al v)), .ref (q 20), .ref (q 21), .ref (q 22), .ref (q 23), .int (M_shotAlarm (M_ex v)), .int (M_drawn (M_ex v))]), ((q 1), aI K 700 (M_tape (M_tp v))), ((q 2), aI K 20 (M_number (M_cd v))), ((q 3), aZ K 5 (M_isTold (M_rd v))), ((q 4), aI K 80 (M_codeSort (M_cd v))), ((q 5), aI K 80 (M_codeA (M_cd v))), ((q 6), aI K 80 (M_codeB (M_cd v))), ((q 7), aI K 80 (M_codeC (M_cd v))), ((q 8), aI K 80 (M_codeName (M_cd v))), ((q 9), aI K 80 (M_codePlace (M_cd v))), ((q 10), aI K 80 (M_codeTo (M_cd v))), ((q 11), aI K 280 (M_labelName (M_cd v))), ((q 12), aI K 280 (M_labelAt (M_cd v))), ((q 13), aI K 64 (M_data (M_cd v))), ((q 14), aZ K 32 (M_hasData (M_rd v))), ((q 15), aI K 314 (M_s (M_rn v))), ((q 16), aI K 314 (M_aside (M_ex v))), ((q 17), aI K 314 (M_further (M_ex v))), ((q 18), aI K 314 (M_image (M_im v))), ((q 19), aI K 3 (M_sizeNow (M_rn v))), ((q 20), aI K 8 (M_aloneRegister (M_al v))), ((q 21), aI K 4 (M_aloneReal (M_al v))), ((q 22), aI K 32 (M_aloneMemory (M_al v))), ((q 23), aI K 999 (M_aloneOutput (M_al v)))]) cx [] [] [0, 1, 2, 3, 4, 5, 6, 7, 8, 9, 10, 11, 12, 13, 14, 15, 16, 17, 18, 19, 20, 21, 22, 23] (m_M_trailerWhy l D K q ((M_tp v), (M_rd v), (M_lf v), (M_cd v), (M_rn v), (M_ex v), (M_im v), (M_al v), (0 : Int32)) hc5) yv_X10_trailerWhy wd_1576 ⟨rfl, rfl⟩ (by decide) rfl rfl rfl (by decide) 0 rfl rfl rfl (Nat.le_of_ble_eq_true rfl) dX10_next_16 ?_
    obtain ⟨J7, eJ7, hf⟩ := nm_of hf
    have hJ7 : ∀ (y6 : Int32), J7 y6 = some (r_, o_v) → WW p l e rm_M_next s m args below meth c D A 4 0 0 (MQ below (QI D K A r_ (cl_M K q o_v)) args s 0 0 A) ([((q 0), ob 9 [.int (0 : Int32), .ref (q 1), .int (M_taped (M_tp v)), .ref (q 2), .ref (q 3), .ref (q 4), .ref (q 5), .ref (q 6), .ref (q 7), .ref (q 8), .ref (q 9), .ref (q 10), .ref (q 11), .ref (q 12), .ref (q 13), .ref (q 14), .int (M_lines (M_rd v)), .int (M_size (M_rd v)), .int (M_at (M_rd v)), .int (M_place (M_rd v)), .int (M_sort (M_rd v)), .int (M_value (M_rd v)), .int (M_fault (M_rd v)), .int (M_faultPlace (M_rd v)), .int (M_lastFault (M_lf v)), .int (M_lastPlace (M_lf v)), .ref (q 15), .ref (q 16), .ref (q 17), .ref (q 18), .int (M_hasImage (M_im v)), .int (M_spanNow (M_rn v)), .ref (q 19), .int (M_placeThen (M_rn v)), .int (M_alonePlace (M_al v)), .int (M_aloneSteps (M_al v)), .int (M_aloneOut (M_al v)), .ref (q 20), .ref (q 21), .ref (q 22), .ref (q 23), .int (M_shotAlarm (M_ex v)), .int (M_drawn (M_ex v))]), ((q 1), aI K 700 (M_tape (M_tp v))), ((q 2), aI K 20 (M_number (M_cd v))), ((q 3), aZ K 5 (M_isTold (M_rd v))), ((q 4), aI K 80 (M_codeSort (M_cd v))), ((q 5), aI K 80 (M_codeA (M_cd v))), ((q 6), aI K 80 (M_codeB (M_cd v))), ((q 7), aI K 80 (M_codeC (M_cd v))), ((q 8), aI K 80 (M_codeName (M_cd v))), ((q 9), aI K 80 (M_codePlace (M_cd v))), ((q 10), aI K 80 (M_codeTo (M_cd v))), ((q 11), aI K 280 (M_labelName (M_cd v))), ((q 12), aI K 280 (M_labelAt (M_cd v))), ((q 13), aI K 64 (M_data (M_cd v))), ((q 14), aZ K 32 (M_hasData (M_rd v))), ((q 15), aI K 314 (M_s (M_rn v))), ((q 16), aI K 314 (M_aside (M_ex v))), ((q 17), aI K 314 (M_further (M_ex v))), ((q 18), aI K 314 (M_image (M_im v))), ((q 19), aI K 3 (M_sizeNow (M_rn v))), ((q 20), aI K 8 (M_aloneRegister (M_al v))), ((q 21), aI K 4 (M_aloneReal (M_al v))), ((q 22), aI K 32 (M_aloneMemory (M_al v))), ((q 23), aI K 999 (M_aloneOutput (M_al v)))]) ([(0, .ref (q 0))]) ([.int y6]) 38 := by
      intro y6 hf
      rw [eJ7] at hf
      refine r_istore_n (pc := 38) (loc' := [(1, .int y6), (0, .ref (q 0))]) cx dX10_next_38 rfl (by decide) rfl ?_
      refine r_aload_n (pc := 39) cx dX10_next_39 1 rfl ?_
      refine r_get (pc := 40) cx cf_X10 0 26 rfl (by decide) rfl wd_1342 dX10_next_40 ?_
      refine r_sipush (pc := 43) cx dX10_next_43 sp_221 ?_
      refine r_iald (pc := 46) cx 15 rfl (by decide) dX10_next_46 ?_
      obtain ⟨x8, ex8, hf⟩ := nm_of hf
      refine r_nm ex8 ?_
      refine r_istore_n (pc := 47) (loc' := [(2, .int x8), (1, .int y6), (0, .ref (q 0))]) cx dX10_next_47 rfl (by decide) rfl ?_
      refine r_aload_n (pc := 48) cx dX10_next_48 2 rfl ?_
      refine r_get (pc := 49) cx cf_X10 0 26 rfl (by decide) rfl wd_1342 dX10_next_49 ?_
      refine r_aload_n (pc := 52) cx dX10_next_52 2 rfl ?_
      refine r_get (pc := 53) cx cf_X10 0 27 rfl (by decide) rfl wd_1343 dX10_next_53 ?_
      obtain ⟨v9, hc10, hf⟩ := bd_of hf
      refine r_Sv (pc := 56) (ws' := [((q 0), ob 9 [.int (0 : Int32), .ref (q 1), .int (M_taped (M_tp v)), .ref (q 2), .ref (q 3), .ref (q 4), .ref (q 5), .ref (q 6), .ref (q 7), .ref (q 8), .ref (q 9), .ref (q 10), .ref (q 11), .ref (q 12), .ref (q 13), .ref (q 14), .int (M_lines (M_rd v)), .int (M_size (M_rd v)), .int (M_at (M_rd v)), .int (M_place (M_rd v)), .int (M_sort (M_rd v)), .int (M_value (M_rd v)), .int (M_fault (M_rd v)), .int (M_faultPlace (M_rd v)), .int (M_lastFault (M_lf v)), .int (M_lastPlace (M_lf v)), .ref (q 15), .ref (q 16), .ref (q 17), .ref (q 18), .int (M_hasImage (M_im v)), .int (M_spanNow (M_rn v)), .ref (q 19), .int (M_placeThen (M_rn v)), .int (M_alonePlace (M_al v)), .int (M_aloneSteps (M_al v)), .int (M_aloneOut (M_al v)), .ref (q 20), .ref (q 21), .ref (q 22), .ref (q 23), .int (M_shotAlarm (M_ex v)), .int (M_drawn (M_ex v))]), ((q 1), aI K 700 (M_tape (M_tp v))), ((q 2), aI K 20 (M_number (M_cd v))), ((q 3), aZ K 5 (M_isTold (M_rd v))), ((q 4), aI K 80 (M_codeSort (M_cd v))), ((q 5), aI K 80 (M_codeA (M_cd v))), ((q 6), aI K 80 (M_codeB (M_cd v))), ((q 7), aI K 80 (M_codeC (M_cd v))), ((q 8), aI K 80 (M_codeName (M_cd v))), ((q 9), aI K 80 (M_codePlace (M_cd v))), ((q 10), aI K 80 (M_codeTo (M_cd v))), ((q 11), aI K 280 (M_labelName (M_cd v))), ((q 12), aI K 280 (M_labelAt (M_cd v))), ((q 13), aI K 64 (M_data (M_cd v))), ((q 14), aZ K 32 (M_hasData (M_rd v))), ((q 15), aI K 314 (M_s (M_rn v))), ((q 16), aI K 314 v9), ((q 17), aI K 314 (M_further (M_ex v))), ((q 18), aI K 314 (M_image (M_im v))), ((q 19), aI K 3 (M_sizeNow (M_rn v))), ((q 20), aI K 8 (M_aloneRegister (M_al v))), ((q 21), aI K 4 (M_aloneReal (M_al v))), ((q 22), aI K 32 (M_aloneMemory (M_al v))), ((q 23), aI K 999 (M_aloneOutput (M_al v)))]) cx [.ref (q 15), .ref (q 16)] [] [15, 16] (m_M_copies l D K (fun i => q (i + 15)) (M_s (M_rn v)) (fun i => q (i + 16)) (M_aside (M_ex v)) hc10) ys_X10_copies wd_1764 ⟨rfl, rfl⟩ (by decide) rfl rfl rfl (by decide) rfl (Nat.le_of_ble_eq_true rfl) dX10_next_56 ?_
      refine r_aload_n (pc := 59) cx dX10_next_59 2 rfl ?_
      refine r_iconst (pc := 60) cx dX10_next_60 ic_0 ?_
      obtain ⟨r11, v12, hc13, hf⟩ := bd2_of hf
      refine r_Vi (pc := 61) (ws' := [((q 0), ob 9 [.int (M_thrown v12), .ref (q 1), .int (M_taped (M_tp v12)), .ref (q 2), .ref (q 3), .ref (q 4), .ref (q 5), .ref (q 6), .ref (q 7), .ref (q 8), .ref (q 9), .ref (q 10), .ref (q 11), .ref (q 12), .ref (q 13), .ref (q 14), .int (M_lines (M_rd v12)), .int (M_size (M_rd v12)), .int (M_at (M_rd v12)), .int (M_place (M_rd v12)), .int (M_sort (M_rd v12)), .int (M_value (M_rd v12)), .int (M_fault (M_rd v12)), .int (M_faultPlace (M_rd v12)), .int (M_lastFault (M_lf v12)), .int (M_lastPlace (M_lf v12)), .ref (q 15), .ref (q 16), .ref (q 17), .ref (q 18), .int (M_hasImage (M_im v12)), .int (M_spanNow (M_rn v12)), .ref (q 19), .int (M_placeThen (M_rn v12)), .int (M_alonePlace (M_al v12)), .int (M_aloneSteps (M_al v12)), .int (M_aloneOut (M_al v12)), .ref (q 20), .ref (q 21), .ref (q 22), .ref (q 23), .int (M_shotAlarm (M_ex v12)), .int (M_drawn (M_ex v12))]), ((q 1), aI K 700 (M_tape (M_tp v12))), ((q 2), aI K 20 (M_number (M_cd v12))), ((q 3), aZ K 5 (M_isTold (M_rd v12))), ((q 4), aI K 80 (M_codeSort (M_cd v12))), ((q 5), aI K 80 (M_codeA (M_cd v12))), ((q 6), aI K 80 (M_codeB (M_cd v12))), ((q 7), aI K 80 (M_codeC (M_cd v12))), ((q 8), aI K 80 (M_codeName (M_cd v12))), ((q 9), aI K 80 (M_codePlace (M_cd v12))), ((q 10), aI K 80 (M_codeTo (M_cd v12))), ((q 11), aI K 280 (M_labelName (M_cd v12))), ((q 12), aI K 280 (M_labelAt (M_cd v12))), ((q 13), aI K 64 (M_data (M_cd v12))), ((q 14), aZ K 32 (M_hasData (M_rd v12))), ((q 15), aI K 314 (M_s (M_rn v12))), ((q 16), aI K 314 (M_aside (M_ex v12))), ((q 17), aI K 314 (M_further (M_ex v12))), ((q 18), aI K 314 (M_image (M_im v12))), ((q 19), aI K 3 (M_sizeNow (M_rn v12))), ((q 20), aI K 8 (M_aloneRegister (M_al v12))), ((q 21), aI K 4 (M_aloneReal (M_al v12))), ((q 22), aI K 32 (M_aloneMemory (M_al v12))), ((q 23), aI K 999 (M_aloneOutput (M_al v12)))]) cx [.int (0 : Int32)] [] [0, 1, 2, 3, 4, 5, 6, 7, 8, 9, 10, 11, 12, 13, 14, 15, 16, 17, 18, 19, 20, 21, 22, 23] (m_M_turns l D K q ((M_tp v), (M_rd v), (M_lf v), (M_cd v), (M_rn v), (v9, (M_further (M_ex v)), (M_shotAlarm (M_ex v)), (M_drawn (M_ex v))), (M_im v), (M_al v), (0 : Int32)) (0 : Int32) hc13) yv_X10_turns wd_1568 ⟨rfl, rfl⟩ (by decide) rfl rfl rfl (by decide) 0 rfl rfl rfl (Nat.le_of_ble_eq_true rfl) dX10_next_61 ?_
      refine r_pop (pc := 64) cx dX10_next_64 rfl ?_
      refine r_aload_n (pc := 65) cx dX10_next_65 2 rfl ?_
      refine r_get (pc := 66) cx cf_X10 0 26 rfl (by decide) rfl wd_1342 dX10_next_66 ?_
      refine r_sipush (pc := 69) cx dX10_next_69 sp_221 ?_
      refine r_iald (pc := 72) cx 15 rfl (by decide) dX10_next_72 ?_
      refine r_iload_n (pc := 73) cx dX10_next_73 0 rfl ?_
      obtain ⟨J15, eJ15, hf⟩ := nm_of hf
      have hJ15 : ∀ (y14 : Int32), J15 y14 = some (r_, o_v) → WW p l e rm_M_next s m args below meth c D A 4 0 0 (MQ below (QI D K A r_ (cl_M K q o_v)) args s 0 0 A) ([((q 0), ob 9 [.int (M_thrown v12), .ref (q 1), .int (M_taped (M_tp v12)), .ref (q 2), .ref (q 3), .ref (q 4), .ref (q 5), .ref (q 6), .ref (q 7), .ref (q 8), .ref (q 9), .ref (q 10), .ref (q 11), .ref (q 12), .ref (q 13), .ref (q 14), .int (M_lines (M_rd v12)), .int (M_size (M_rd v12)), .int (M_at (M_rd v12)), .int (M_place (M_rd v12)), .int (M_sort (M_rd v12)), .int (M_value (M_rd v12)), .int (M_fault (M_rd v12)), .int (M_faultPlace (M_rd v12)), .int (M_lastFault (M_lf v12)), .int (M_lastPlace (M_lf v12)), .ref (q 15), .ref (q 16), .ref (q 17), .ref (q 18), .int (M_hasImage (M_im v12)), .int (M_spanNow (M_rn v12)), .ref (q 19), .int (M_placeThen (M_rn v12)), .int (M_alonePlace (M_al v12)), .int (M_aloneSteps (M_al v12)), .int (M_aloneOut (M_al v12)), .ref (q 20), .ref (q 21), .ref (q 22), .ref (q 23), .int (M_shotAlarm (M_ex v12)), .int (M_drawn (M_ex v12))]), ((q 1), aI K 700 (M_tape (M_tp v12))), ((q 2), aI K 20 (M_number (M_cd v12))), ((q 3), aZ K 5 (M_isTold (M_rd v12))), ((q 4), aI K 80 (M_codeSort (M_cd v12))), ((q 5), aI K 80 (M_codeA (M_cd v12))), ((q 6), aI K 80 (M_codeB (M_cd v12))), ((q 7), aI K 80 (M_codeC (M_cd v12))), ((q 8), aI K 80 (M_codeName (M_cd v12))), ((q 9), aI K 80 (M_codePlace (M_cd v12))), ((q 10), aI K 80 (M_codeTo (M_cd v12))), ((q 11), aI K 280 (M_labelName (M_cd v12))), ((q 12), aI K 280 (M_labelAt (M_cd v12))), ((q 13), aI K 64 (M_data (M_cd v12))), ((q 14), aZ K 32 (M_hasData (M_rd v12))), ((q 15), aI K 314 (M_s (M_rn v12))), ((q 16), aI K 314 (M_aside (M_ex v12))), ((q 17), aI K 314 (M_further (M_ex v12))), ((q 18), aI K 314 (M_image (M_im v12))), ((q 19), aI K 3 (M_sizeNow (M_rn v12))), ((q 20), aI K 8 (M_aloneRegister (M_al v12))), ((q 21), aI K 4 (M_aloneReal (M_al v12))), ((q 22), aI K 32 (M_aloneMemory (M_al v12))), ((q 23), aI K 999 (M_aloneOutput (M_al v12)))]) ([(0, .ref (q 0))]) ([.int y14]) 92 := by
        intro y14 hf
        rw [eJ15] at hf
        refine r_istore_n (pc := 92) (loc' := [(3, .int y14), (0, .ref (q 0))]) cx dX10_next_92 rfl (by decide) rfl ?_
        refine r_aload_n (pc := 93) cx dX10_next_93 1 rfl ?_
        refine r_get (pc := 94) cx cf_X10 0 27 rfl (by decide) rfl wd_1343 dX10_next_94 ?_
        refine r_aload_n (pc := 97) cx dX10_next_97 1 rfl ?_
        refine r_get (pc := 98) cx cf_X10 0 26 rfl (by decide) rfl wd_1342 dX10_next_98 ?_
        obtain ⟨v16, hc17, hf⟩ := bd_of hf
        refine r_Sv (pc := 101) (ws' := [((q 0), ob 9 [.int (M_thrown v12), .ref (q 1), .int (M_taped (M_tp v12)), .ref (q 2), .ref (q 3), .ref (q 4), .ref (q 5), .ref (q 6), .ref (q 7), .ref (q 8), .ref (q 9), .ref (q 10), .ref (q 11), .ref (q 12), .ref (q 13), .ref (q 14), .int (M_lines (M_rd v12)), .int (M_size (M_rd v12)), .int (M_at (M_rd v12)), .int (M_place (M_rd v12)), .int (M_sort (M_rd v12)), .int (M_value (M_rd v12)), .int (M_fault (M_rd v12)), .int (M_faultPlace (M_rd v12)), .int (M_lastFault (M_lf v12)), .int (M_lastPlace (M_lf v12)), .ref (q 15), .ref (q 16), .ref (q 17), .ref (q 18), .int (M_hasImage (M_im v12)), .int (M_spanNow (M_rn v12)), .ref (q 19), .int (M_placeThen (M_rn v12)), .int (M_alonePlace (M_al v12)), .int (M_aloneSteps (M_al v12)), .int (M_aloneOut (M_al v12)), .ref (q 20), .ref (q 21), .ref (q 22), .ref (q 23), .int (M_shotAlarm (M_ex v12)), .int (M_drawn (M_ex v12))]), ((q 1), aI K 700 (M_tape (M_tp v12))), ((q 2), aI K 20 (M_number (M_cd v12))), ((q 3), aZ K 5 (M_isTold (M_rd v12))), ((q 4), aI K 80 (M_codeSort (M_cd v12))), ((q 5), aI K 80 (M_codeA (M_cd v12))), ((q 6), aI K 80 (M_codeB (M_cd v12))), ((q 7), aI K 80 (M_codeC (M_cd v12))), ((q 8), aI K 80 (M_codeName (M_cd v12))), ((q 9), aI K 80 (M_codePlace (M_cd v12))), ((q 10), aI K 80 (M_codeTo (M_cd v12))), ((q 11), aI K 280 (M_labelName (M_cd v12))), ((q 12), aI K 280 (M_labelAt (M_cd v12))), ((q 13), aI K 64 (M_data (M_cd v12))), ((q 14), aZ K 32 (M_hasData (M_rd v12))), ((q 15), aI K 314 v16), ((q 16), aI K 314 (M_aside (M_ex v12))), ((q 17), aI K 314 (M_further (M_ex v12))), ((q 18), aI K 314 (M_image (M_im v12))), ((q 19), aI K 3 (M_sizeNow (M_rn v12))), ((q 20), aI K 8 (M_aloneRegister (M_al v12))), ((q 21), aI K 4 (M_aloneReal (M_al v12))), ((q 22), aI K 32 (M_aloneMemory (M_al v12))), ((q 23), aI K 999 (M_aloneOutput (M_al v12)))]) cx [.ref (q 16), .ref (q 15)] [] [16, 15] (m_M_copies l D K (fun i => q (i + 16)) (M_aside (M_ex v12)) (fun i => q (i + 15)) (M_s (M_rn v12)) hc17) ys_X10_copies wd_1764 ⟨rfl, rfl⟩ (by decide) rfl rfl rfl (by decide) rfl (Nat.le_of_ble_eq_true rfl) dX10_next_101 ?_
        refine r_iload_n (pc := 104) cx dX10_next_104 0 rfl ?_
        cases hf
        exact r_iret (pc := 105) cx rfl rfl dX10_next_105
      refine r_icmp_le (pc := 74) (tgt := 91) cx dX10_next_74 (by decide) (fun h18 => ?_) (fun h18 => ?_)
      · have hf := ifp h18 hf
        refine r_iload_n (pc := 91) cx dX10_next_91 1 rfl ?_
        refine r_loc (loc' := [(0, .ref (q 0))]) [2] rfl ?_
        exact hJ15 _ hf
      · have hf := ifn h18 hf
        refine r_bipush (pc := 77) cx dX10_next_77 bp_10 ?_
        refine r_aload_n (pc := 79) cx dX10_next_79 2 rfl ?_
        refine r_get (pc := 80) cx cf_X10 0 26 rfl (by decide) rfl wd_1342 dX10_next_80 ?_
        refine r_sipush (pc := 83) cx dX10_next_83 sp_233 ?_
        refine r_iald (pc := 86) cx 15 rfl (by decide) dX10_next_86 ?_
        refine r_iadd (pc := 87) cx dX10_next_87 ?_
        refine r_goto (pc := 88) (tgt := 92) cx dX10_next_88 (by decide) ?_
        refine r_loc (loc' := [(0, .ref (q 0))]) [2] rfl ?_
        exact hJ15 _ hf
    refine r_if_ne (pc := 19) (tgt := 26) cx dX10_next_19 (by decide) (fun h19 => ?_) (fun h19 => ?_)
    · have hf := ifn h19 hf
      refine r_aload_n (pc := 26) cx dX10_next_26 0 rfl ?_
      obtain ⟨r20, hc21, hf⟩ := bd_of hf
      refine r_Vi (pc := 27) (ws' := [((q 0), ob 9 [.int (0 : Int32), .ref (q 1), .int (M_taped (M_tp v)), .ref (q 2), .ref (q 3), .ref (q 4), .ref (q 5), .ref (q 6), .ref (q 7), .ref (q 8), .ref (q 9), .ref (q 10), .ref (q 11), .ref (q 12), .ref (q 13), .ref (q 14), .int (M_lines (M_rd v)), .int (M_size (M_rd v)), .int (M_at (M_rd v)), .int (M_place (M_rd v)), .int (M_sort (M_rd v)), .int (M_value (M_rd v)), .int (M_fault (M_rd v)), .int (M_faultPlace (M_rd v)), .int (M_lastFault (M_lf v)), .int (M_lastPlace (M_lf v)), .ref (q 15), .ref (q 16), .ref (q 17), .ref (q 18), .int (M_hasImage (M_im v)), .int (M_spanNow (M_rn v)), .ref (q 19), .int (M_placeThen (M_rn v)), .int (M_alonePlace (M_al v)), .int (M_aloneSteps (M_al v)), .int (M_aloneOut (M_al v)), .ref (q 20), .ref (q 21), .ref (q 22), .ref (q 23), .int (M_shotAlarm (M_ex v)), .int (M_drawn (M_ex v))]), ((q 1), aI K 700 (M_tape (M_tp v))), ((q 2), aI K 20 (M_number (M_cd v))), ((q 3), aZ K 5 (M_isTold (M_rd v))), ((q 4), aI K 80 (M_codeSort (M_cd v))), ((q 5), aI K 80 (M_codeA (M_cd v))), ((q 6), aI K 80 (M_codeB (M_cd v))), ((q 7), aI K 80 (M_codeC (M_cd v))), ((q 8), aI K 80 (M_codeName (M_cd v))), ((q 9), aI K 80 (M_codePlace (M_cd v))), ((q 10), aI K 80 (M_codeTo (M_cd v))), ((q 11), aI K 280 (M_labelName (M_cd v))), ((q 12), aI K 280 (M_labelAt (M_cd v))), ((q 13), aI K 64 (M_data (M_cd v))), ((q 14), aZ K 32 (M_hasData (M_rd v))), ((q 15), aI K 314 (M_s (M_rn v))), ((q 16), aI K 314 (M_aside (M_ex v))), ((q 17), aI K 314 (M_further (M_ex v))), ((q 18), aI K 314 (M_image (M_im v))), ((q 19), aI K 3 (M_sizeNow (M_rn v))), ((q 20), aI K 8 (M_aloneRegister (M_al v))), ((q 21), aI K 4 (M_aloneReal (M_al v))), ((q 22), aI K 32 (M_aloneMemory (M_al v))), ((q 23), aI K 999 (M_aloneOutput (M_al v)))]) cx [] [] [0, 1, 2, 3, 4, 5, 6, 7, 8, 9, 10, 11, 12, 13, 14, 15, 16, 17, 18, 19, 20, 21, 22, 23] (m_M_leaderWhy l D K q ((M_tp v), (M_rd v), (M_lf v), (M_cd v), (M_rn v), (M_ex v), (M_im v), (M_al v), (0 : Int32)) hc21) yv_X10_leaderWhy wd_1592 ⟨rfl, rfl⟩ (by decide) rfl rfl rfl (by decide) 0 rfl rfl rfl (Nat.le_of_ble_eq_true rfl) dX10_next_27 ?_
      refine r_if_ne (pc := 30) (tgt := 37) cx dX10_next_30 (by decide) (fun h22 => ?_) (fun h22 => ?_)
      · have hf := ifn h22 hf
        refine r_iconst (pc := 37) cx dX10_next_37 ic_2 ?_
        exact hJ7 _ hf
      · have hf := ifp h22 hf
        refine r_iconst (pc := 33) cx dX10_next_33 ic_1 ?_
        refine r_goto (pc := 34) (tgt := 38) cx dX10_next_34 (by decide) ?_
        exact hJ7 _ hf
    · have hf := ifp h19 hf
      refine r_iconst (pc := 22) cx dX10_next_22 ic_0 ?_
      refine r_goto (pc := 23) (tgt := 38) cx dX10_next_23 (by decide) ?_
      exact hJ7 _ hf
  · have hf := ifn h3 hf
    refine r_bipush (pc := 12) cx dX10_next_12 bp_m2 ?_
    cases hf
    exact r_iret (pc := 14) cx rfl rfl dX10_next_14
theorem yv_X10_next : YV yX10_next cX10_next 4 (some .int) 0 := ⟨⟨by decide +kernel, by decide +kernel, by decide +kernel⟩, wd_1763, wd_102, wd_1761, wd_1762⟩
