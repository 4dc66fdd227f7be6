def f_Rd_readName (v : T_Rd) (pr : T_Pg) (a2 : Int32) : Option (T_Rd) :=
  (if (Rd_token v) = (1 : Int32) then (if (Rd_value v) = (-1 : Int32) then (bd (f_Rd_fail v (1 : Int32) (Rd_place v)) fun (v5 : T_Rd) => (some v5)) else (bd (f_Rd_wordNumber v (Rd_value v)) fun (r7 : Int32) => (if r7 = (-1 : Int32) then (if a2 = (119 : Int32) then (nm (Rd_place v) fun (x18 : Int32) => (nm (upd (Rd_wantedPlaces v) (((Pg_size pr) &&& (63 : Int32))).toNatClampNeg x18) fun (f19 : Nat → Int32) => (nm (Rd_value v) fun (x20 : Int32) => (nm (upd (Rd_parts v) (2 : Int32).toNatClampNeg x20) fun (f21 : Nat → Int32) => (some ((Rd_tape v), (Rd_filled v), (Rd_fault v), (Rd_faultPlace v), (Rd_words v), (Rd_sorts v), f21, f19, (Rd_limit v), (Rd_position v), (Rd_token v), (Rd_value v), (Rd_place v), (Rd_toldRules v), (Rd_toldData v))))))) else (bd (f_Pg_placeOf pr (Rd_value v)) fun (r11 : Int32) => (if r11 = (-1 : Int32) then (nm (Rd_value v) fun (x14 : Int32) => (nm (upd (Rd_parts v) (0 : Int32).toNatClampNeg x14) fun (f15 : Nat → Int32) => (some ((Rd_tape v), (Rd_filled v), (Rd_fault v), (Rd_faultPlace v), (Rd_words v), (Rd_sorts v), f15, (Rd_wantedPlaces v), (Rd_limit v), (Rd_position v), (Rd_token v), (Rd_value v), (Rd_place v), (Rd_toldRules v), (Rd_toldData v))))) else (bd (f_Rd_fail v (3 : Int32) (Rd_place v)) fun (v16 : T_Rd) => (some v16))))) else (bd (f_Rd_fail v (1 : Int32) (Rd_place v)) fun (v22 : T_Rd) => (some v22))))) else (bd (f_Rd_fail v (1 : Int32) (Rd_place v)) fun (v2 : T_Rd) => (some v2)))
abbrev rm_Rd_readName : Room := { frames := 1, cells := 0, slots := 0, locals := 22 }
set_option maxRecDepth 100000 in
set_option maxHeartbeats 4000000 in
theorem m_Rd_readName (l : Launch) (D : va_G) (K : Nat → ClassId) (q : Nat → Nat) (v : T_Rd) (g : Nat → Nat) (pr : T_Pg) (a2 : Int32) {o_v : T_Rd} (hf : f_Rd_readName v pr a2 = some o_v) : MV l yX6_readName cX6_readName 3 (none) rm_Rd_readName D K [.ref (q 0), .ref (g 0), .int a2] (cl_Rd K q v ++ (cl_Pg K g pr)) (cl_Rd K q o_v ++ (cl_Pg K g pr)) := by
  refine MV_of (loc0 := [(0, .ref (q 0)), (1, .ref (g 0)), (2, .int a2)]) (by decide +kernel) rfl (Nat.le_of_ble_eq_true rfl) ?_
  intro p e s m args below meth c A cx
  unfold f_Rd_readName at hf
  refine r_ws (ws' := [((q 0), ob 5 [.ref (q 1), .int (Rd_filled v), .int (Rd_fault v), .int (Rd_faultPlace v), .ref (q 2), .ref (q 3), .ref (q 4), .ref (q 5), .int (Rd_limit v), .int (Rd_position v), .int (Rd_token v), .int (Rd_value v), .int (Rd_place v), .int (Rd_toldRules v), .int (Rd_toldData v)]), ((q 1), aB K 700 (Rd_tape v)), ((q 2), aI K 25 (Rd_words v)), ((q 3), aI K 75 (Rd_sorts v)), ((q 4), aI K 3 (Rd_parts v)), ((q 5), aI K 64 (Rd_wantedPlaces v)), ((g 0), ob 3 [.ref (g 1), .ref (g 2), .ref (g 3), .ref (g 4), .ref (g 5), .ref (g 6), .ref (g 7), .ref (g 8), .int (Pg_nameCount pr), .int (Pg_size pr), .int (Pg_lines pr)]), ((g 1), aI K 64 (Pg_code pr)), ((g 2), aI K 64 (Pg_first pr)), ((g 3), aI K 64 (Pg_second pr)), ((g 4), aI K 64 (Pg_third pr)), ((g 5), aI K 8 (Pg_rules pr)), ((g 6), aI K 32 (Pg_data pr)), ((g 7), aI K 140 (Pg_names pr)), ((g 8), aI K 140 (Pg_namedPlaces pr))]) rfl ?_
  refine r_aload_n (pc := 0) cx dX6_readName_0 0 rfl ?_
  refine r_get (pc := 1) cx cf_X6 0 10 rfl (by decide) rfl wd_262 dX6_readName_1 ?_
  refine r_iconst (pc := 4) cx dX6_readName_4 ic_1 ?_
  refine r_icmp_ne (pc := 5) (tgt := 28) cx dX6_readName_5 (by decide) (fun h1 => ?_) (fun h1 => ?_)
  · have hf := ifn h1 hf
    refine r_aload_n (pc := 28) cx dX6_readName_28 0 rfl ?_
    refine r_iconst (pc := 29) cx dX6_readName_29 ic_1 ?_
    refine r_aload_n (pc := 30) cx dX6_readName_30 0 rfl ?_
    refine r_get (pc := 31) cx cf_X6 0 12 rfl (by decide) rfl wd_264 dX6_readName_31 ?_
    obtain ⟨v2, hc3, hf⟩ := bd_of hf
    refine r_Vv (pc := 34) (ws' := [((q 0), ob 5 [.ref (q 1), .int (Rd_filled v2), .int (Rd_fault v2), .int (Rd_faultPlace v2), .ref (q 2), .ref (q 3), .ref (q 4), .ref (q 5), .int (Rd_limit v2), .int (Rd_position v2), .int (Rd_token v2), .int (Rd_value v2), .int (Rd_place v2), .int (Rd_toldRules v2), .int (Rd_toldData v2)]), ((q 1), aB K 700 (Rd_tape v2)), ((q 2), aI K 25 (Rd_words v2)), ((q 3), aI K 75 (Rd_sorts v2)), ((q 4), aI K 3 (Rd_parts v2)), ((q 5), aI K 64 (Rd_wantedPlaces v2)), ((g 0), ob 3 [.ref (g 1), .ref (g 2), .ref (g 3), .ref (g 4), .ref (g 5), .ref (g 6), .ref (g 7), .ref (g 8), .int (Pg_nameCount pr), .int (Pg_size pr), .int (Pg_lines pr)]), ((g 1), aI K 64 (Pg_code pr)), ((g 2), aI K 64 (Pg_first pr)), ((g 3), aI K 64 (Pg_second pr)), ((g 4), aI K 64 (Pg_third pr)), ((g 5), aI K 8 (Pg_rules pr)), ((g 6), aI K 32 (Pg_data pr)), ((g 7), aI K 140 (Pg_names pr)), ((g 8), aI K 140 (Pg_namedPlaces pr))]) (nn := 6) cx [.int (1 : Int32), .int (Rd_place v)] [] (m_Rd_fail l D K q v (1 : Int32) (Rd_place v) hc3) yv_X6_fail wd_649 ⟨rfl, rfl⟩ (by decide) (fr_s (j := 0) rfl rfl rfl (fr_s (j := 1) rfl rfl rfl (fr_s (j := 2) rfl rfl rfl (fr_s (j := 3) rfl rfl rfl (fr_s (j := 4) rfl rfl rfl (fr_s (j := 5) rfl rfl rfl (fr_k (fr_k (fr_k (fr_k (fr_k (fr_k (fr_k (fr_k (fr_k (fr_n)))))))))))))))) rfl (by decide) 0 rfl rfl rfl (Nat.le_of_ble_eq_true rfl) dX6_readName_34 ?_
    refine r_goto (pc := 37) (tgt := 109) cx dX6_readName_37 (by decide) ?_
    cases hf
    exact r_vret (pc := 109) cx rfl dX6_readName_109
  · have hf := ifp h1 hf
    refine r_aload_n (pc := 8) cx dX6_readName_8 0 rfl ?_
    refine r_get (pc := 9) cx cf_X6 0 11 rfl (by decide) rfl wd_263 dX6_readName_9 ?_
    refine r_iconst (pc := 12) cx dX6_readName_12 ic_m1 ?_
    refine r_icmp_eq (pc := 13) (tgt := 28) cx dX6_readName_13 (by decide) (fun h4 => ?_) (fun h4 => ?_)
    · have hf := ifp h4 hf
      refine r_aload_n (pc := 28) cx dX6_readName_28 0 rfl ?_
      refine r_iconst (pc := 29) cx dX6_readName_29 ic_1 ?_
      refine r_aload_n (pc := 30) cx dX6_readName_30 0 rfl ?_
      refine r_get (pc := 31) cx cf_X6 0 12 rfl (by decide) rfl wd_264 dX6_readName_31 ?_
      obtain ⟨v5, hc6, hf⟩ := bd_of hf
      refine r_Vv (pc := 34) (ws' := [((q 0), ob 5 [.ref (q 1), .int (Rd_filled v5), .int (Rd_fault v5), .int (Rd_faultPlace v5), .ref (q 2), .ref (q 3), .ref (q 4), .ref (q 5), .int (Rd_limit v5), .int (Rd_position v5), .int (Rd_token v5), .int (Rd_value v5), .int (Rd_place v5), .int (Rd_toldRules v5), .int (Rd_toldData v5)]), ((q 1), aB K 700 (Rd_tape v5)), ((q 2), aI K 25 (Rd_words v5)), ((q 3), aI K 75 (Rd_sorts v5)), ((q 4), aI K 3 (Rd_parts v5)), ((q 5), aI K 64 (Rd_wantedPlaces v5)), ((g 0), ob 3 [.ref (g 1), .ref (g 2), .ref (g 3), .ref (g 4), .ref (g 5), .ref (g 6), .ref (g 7), .ref (g 8), .int (Pg_nameCount pr), .int (Pg_size pr), .int (Pg_lines pr)]), ((g 1), aI K 64 (Pg_code pr)), ((g 2), aI K 64 (Pg_first pr)), ((g 3), aI K 64 (Pg_second pr)), ((g 4), aI K 64 (Pg_third pr)), ((g 5), aI K 8 (Pg_rules pr)), ((g 6), aI K 32 (Pg_data pr)), ((g 7), aI K 140 (Pg_names pr)), ((g 8), aI K 140 (Pg_namedPlaces pr))]) (nn := 6) cx [.int (1 : Int32), .int (Rd_place v)] [] (m_Rd_fail l D K q v (1 : Int32) (Rd_place v) hc6) yv_X6_fail wd_649 ⟨rfl, rfl⟩ (by decide) (fr_s (j := 0) rfl rfl rfl (fr_s (j := 1) rfl rfl rfl (fr_s (j := 2) rfl rfl rfl (fr_s (j := 3) rfl rfl rfl (fr_s (j := 4) rfl rfl rfl (fr_s (j := 5) rfl rfl rfl (fr_k (fr_k (fr_k (fr_k (fr_k (fr_k (fr_k (fr_k (fr_k (fr_n)))))))))))))))) rfl (by decide) 0 rfl rfl rfl (Nat.le_of_ble_eq_true rfl) dX6_readName_34 ?_
      refine r_goto (pc := 37) (tgt := 109) cx dX6_readName_37 (by decide) ?_
      cases hf
      exact r_vret (pc := 109) cx rfl dX6_readName_109
    · have hf := ifn h4 hf
      refine r_aload_n (pc := 16) cx dX6_readName_16 0 rfl ?_
      refine r_aload_n (pc := 17) cx dX6_readName_17 0 rfl ?_
      refine r_get (pc := 18) cx cf_X6 0 11 rfl (by decide) rfl wd_263 dX6_readName_18 ?_
      obtain ⟨r7, hc8, hf⟩ := bd_of hf
      refine r_Vi (pc := 21) (ws' := [((q 0), ob 5 [.ref (q 1), .int (Rd_filled v), .int (Rd_fault v), .int (Rd_faultPlace v), .ref (q 2), .ref (q 3), .ref (q 4), .ref (q 5), .int (Rd_limit v), .int (Rd_position v), .int (Rd_token v), .int (Rd_value v), .int (Rd_place v), .int (Rd_toldRules v), .int (Rd_toldData v)]), ((q 1), aB K 700 (Rd_tape v)), ((q 2), aI K 25 (Rd_words v)), ((q 3), aI K 75 (Rd_sorts v)), ((q 4), aI K 3 (Rd_parts v)), ((q 5), aI K 64 (Rd_wantedPlaces v)), ((g 0), ob 3 [.ref (g 1), .ref (g 2), .ref (g 3), .ref (g 4), .ref (g 5), .ref (g 6), .ref (g 7), .ref (g 8), .int (Pg_nameCount pr), .int (Pg_size pr), .int (Pg_lines pr)]), ((g 1), aI K 64 (Pg_code pr)), ((g 2), aI K 64 (Pg_first pr)), ((g 3), aI K 64 (Pg_second pr)), ((g 4), aI K 64 (Pg_third pr)), ((g 5), aI K 8 (Pg_rules pr)), ((g 6), aI K 32 (Pg_data pr)), ((g 7), aI K 140 (Pg_names pr)), ((g 8), aI K 140 (Pg_namedPlaces pr))]) (nn := 6) cx [.int (Rd_value v)] [] (m_Rd_wordNumber l D K q v (Rd_value v) hc8) yv_X6_wordNumber wd_645 ⟨rfl, rfl⟩ (by decide) (fr_s (j := 0) rfl rfl rfl (fr_s (j := 1) rfl rfl rfl (fr_s (j := 2) rfl rfl rfl (fr_s (j := 3) rfl rfl rfl (fr_s (j := 4) rfl rfl rfl (fr_s (j := 5) rfl rfl rfl (fr_k (fr_k (fr_k (fr_k (fr_k (fr_k (fr_k (fr_k (fr_k (fr_n)))))))))))))))) rfl (by decide) 0 rfl rfl rfl (Nat.le_of_ble_eq_true rfl) dX6_readName_21 ?_
      refine r_iconst (pc := 24) cx dX6_readName_24 ic_m1 ?_
      refine r_icmp_eq (pc := 25) (tgt := 40) cx dX6_readName_25 (by decide) (fun h9 => ?_) (fun h9 => ?_)
      · have hf := ifp h9 hf
        refine r_iload_n (pc := 40) cx dX6_readName_40 2 rfl ?_
        refine r_bipush (pc := 41) cx dX6_readName_41 bp_119 ?_
        refine r_icmp_ne (pc := 43) (tgt := 75) cx dX6_readName_43 (by decide) (fun h10 => ?_) (fun h10 => ?_)
        · have hf := ifn h10 hf
          refine r_aload_n (pc := 75) cx dX6_readName_75 1 rfl ?_
          refine r_aload_n (pc := 76) cx dX6_readName_76 0 rfl ?_
          refine r_get (pc := 77) cx cf_X6 0 11 rfl (by decide) rfl wd_263 dX6_readName_77 ?_
          obtain ⟨r11, hc12, hf⟩ := bd_of hf
          refine r_Vi (pc := 80) (ws' := [((q 0), ob 5 [.ref (q 1), .int (Rd_filled v), .int (Rd_fault v), .int (Rd_faultPlace v), .ref (q 2), .ref (q 3), .ref (q 4), .ref (q 5), .int (Rd_limit v), .int (Rd_position v), .int (Rd_token v), .int (Rd_value v), .int (Rd_place v), .int (Rd_toldRules v), .int (Rd_toldData v)]), ((q 1), aB K 700 (Rd_tape v)), ((q 2), aI K 25 (Rd_words v)), ((q 3), aI K 75 (Rd_sorts v)), ((q 4), aI K 3 (Rd_parts v)), ((q 5), aI K 64 (Rd_wantedPlaces v)), ((g 0), ob 3 [.ref (g 1), .ref (g 2), .ref (g 3), .ref (g 4), .ref (g 5), .ref (g 6), .ref (g 7), .ref (g 8), .int (Pg_nameCount pr), .int (Pg_size pr), .int (Pg_lines pr)]), ((g 1), aI K 64 (Pg_code pr)), ((g 2), aI K 64 (Pg_first pr)), ((g 3), aI K 64 (Pg_second pr)), ((g 4), aI K 64 (Pg_third pr)), ((g 5), aI K 8 (Pg_rules pr)), ((g 6), aI K 32 (Pg_data pr)), ((g 7), aI K 140 (Pg_names pr)), ((g 8), aI K 140 (Pg_namedPlaces pr))]) (nn := 9) cx [.int (Rd_value v)] [] (m_Pg_placeOf l D K g pr (Rd_value v) hc12) yv_X4_placeOf wd_665 ⟨rfl, rfl⟩ (by decide) (fr_k (fr_k (fr_k (fr_k (fr_k (fr_k (fr_s (j := 0) rfl rfl rfl (fr_s (j := 1) rfl rfl rfl (fr_s (j := 2) rfl rfl rfl (fr_s (j := 3) rfl rfl rfl (fr_s (j := 4) rfl rfl rfl (fr_s (j := 5) rfl rfl rfl (fr_s (j := 6) rfl rfl rfl (fr_s (j := 7) rfl rfl rfl (fr_s (j := 8) rfl rfl rfl (fr_n)))))))))))))))) rfl (by decide) 6 rfl rfl rfl (Nat.le_of_ble_eq_true rfl) dX6_readName_80 ?_
          refine r_iconst (pc := 83) cx dX6_readName_83 ic_m1 ?_
          refine r_icmp_eq (pc := 84) (tgt := 99) cx dX6_readName_84 (by decide) (fun h13 => ?_) (fun h13 => ?_)
          · have hf := ifp h13 hf
            refine r_aload_n (pc := 99) cx dX6_readName_99 0 rfl ?_
            refine r_get (pc := 100) cx cf_X6 0 6 rfl (by decide) rfl wd_258 dX6_readName_100 ?_
            refine r_iconst (pc := 103) cx dX6_readName_103 ic_0 ?_
            refine r_aload_n (pc := 104) cx dX6_readName_104 0 rfl ?_
            refine r_get (pc := 105) cx cf_X6 0 11 rfl (by decide) rfl wd_263 dX6_readName_105 ?_
            obtain ⟨x14, ex14, hf⟩ := nm_of hf
            refine r_nm ex14 ?_
            obtain ⟨f15, ef15, hf⟩ := nm_of hf
            refine r_iast (pc := 108) (ws' := [((q 0), ob 5 [.ref (q 1), .int (Rd_filled v), .int (Rd_fault v), .int (Rd_faultPlace v), .ref (q 2), .ref (q 3), .ref (q 4), .ref (q 5), .int (Rd_limit v), .int (Rd_position v), .int (Rd_token v), .int (Rd_value v), .int (Rd_place v), .int (Rd_toldRules v), .int (Rd_toldData v)]), ((q 1), aB K 700 (Rd_tape v)), ((q 2), aI K 25 (Rd_words v)), ((q 3), aI K 75 (Rd_sorts v)), ((q 4), aI K 3 f15), ((q 5), aI K 64 (Rd_wantedPlaces v)), ((g 0), ob 3 [.ref (g 1), .ref (g 2), .ref (g 3), .ref (g 4), .ref (g 5), .ref (g 6), .ref (g 7), .ref (g 8), .int (Pg_nameCount pr), .int (Pg_size pr), .int (Pg_lines pr)]), ((g 1), aI K 64 (Pg_code pr)), ((g 2), aI K 64 (Pg_first pr)), ((g 3), aI K 64 (Pg_second pr)), ((g 4), aI K 64 (Pg_third pr)), ((g 5), aI K 8 (Pg_rules pr)), ((g 6), aI K 32 (Pg_data pr)), ((g 7), aI K 140 (Pg_names pr)), ((g 8), aI K 140 (Pg_namedPlaces pr))]) cx 4 rfl (by decide) dX6_readName_108 ef15 rfl ?_
            cases hf
            exact r_vret (pc := 109) cx rfl dX6_readName_109
          · have hf := ifn h13 hf
            refine r_aload_n (pc := 87) cx dX6_readName_87 0 rfl ?_
            refine r_iconst (pc := 88) cx dX6_readName_88 ic_3 ?_
            refine r_aload_n (pc := 89) cx dX6_readName_89 0 rfl ?_
            refine r_get (pc := 90) cx cf_X6 0 12 rfl (by decide) rfl wd_264 dX6_readName_90 ?_
            obtain ⟨v16, hc17, hf⟩ := bd_of hf
            refine r_Vv (pc := 93) (ws' := [((q 0), ob 5 [.ref (q 1), .int (Rd_filled v16), .int (Rd_fault v16), .int (Rd_faultPlace v16), .ref (q 2), .ref (q 3), .ref (q 4), .ref (q 5), .int (Rd_limit v16), .int (Rd_position v16), .int (Rd_token v16), .int (Rd_value v16), .int (Rd_place v16), .int (Rd_toldRules v16), .int (Rd_toldData v16)]), ((q 1), aB K 700 (Rd_tape v16)), ((q 2), aI K 25 (Rd_words v16)), ((q 3), aI K 75 (Rd_sorts v16)), ((q 4), aI K 3 (Rd_parts v16)), ((q 5), aI K 64 (Rd_wantedPlaces v16)), ((g 0), ob 3 [.ref (g 1), .ref (g 2), .ref (g 3), .ref (g 4), .ref (g 5), .ref (g 6), .ref (g 7), .ref (g 8), .int (Pg_nameCount pr), .int (Pg_size pr), .int (Pg_lines pr)]), ((g 1), aI K 64 (Pg_code pr)), ((g 2), aI K 64 (Pg_first pr)), ((g 3), aI K 64 (Pg_second pr)), ((g 4), aI K 64 (Pg_third pr)), ((g 5), aI K 8 (Pg_rules pr)), ((g 6), aI K 32 (Pg_data pr)), ((g 7), aI K 140 (Pg_names pr)), ((g 8), aI K 140 (Pg_namedPlaces pr))]) (nn := 6) cx [.int (3 : Int32), .int (Rd_place v)] [] (m_Rd_fail l D K q v (3 : Int32) (Rd_place v) hc17) yv_X6_fail wd_649 ⟨rfl, rfl⟩ (by decide) (fr_s (j := 0) rfl rfl rfl (fr_s (j := 1) rfl rfl rfl (fr_s (j := 2) rfl rfl rfl (fr_s (j := 3) rfl rfl rfl (fr_s (j := 4) rfl rfl rfl (fr_s (j := 5) rfl rfl rfl (fr_k (fr_k (fr_k (fr_k (fr_k (fr_k (fr_k (fr_k (fr_k (fr_n)))))))))))))))) rfl (by decide) 0 rfl rfl rfl (Nat.le_of_ble_eq_true rfl) dX6_readName_93 ?_
            refine r_goto (pc := 96) (tgt := 109) cx dX6_readName_96 (by decide) ?_
            cases hf
            exact r_vret (pc := 109) cx rfl dX6_readName_109
        · have hf := ifp h10 hf
          refine r_aload_n (pc := 46) cx dX6_readName_46 0 rfl ?_
          refine r_get (pc := 47) cx cf_X6 0 7 rfl (by decide) rfl wd_259 dX6_readName_47 ?_
          refine r_aload_n (pc := 50) cx dX6_readName_50 1 rfl ?_
          refine r_get (pc := 51) cx cf_X4 6 9 rfl (by decide) rfl wd_156 dX6_readName_51 ?_
          refine r_bipush (pc := 54) cx dX6_readName_54 bp_63 ?_
          refine r_iand (pc := 56) cx dX6_readName_56 ?_
          refine r_aload_n (pc := 57) cx dX6_readName_57 0 rfl ?_
          refine r_get (pc := 58) cx cf_X6 0 12 rfl (by decide) rfl wd_264 dX6_readName_58 ?_
          obtain ⟨x18, ex18, hf⟩ := nm_of hf
          refine r_nm ex18 ?_
          obtain ⟨f19, ef19, hf⟩ := nm_of hf
          refine r_iast (pc := 61) (ws' := [((q 0), ob 5 [.ref (q 1), .int (Rd_filled v), .int (Rd_fault v), .int (Rd_faultPlace v), .ref (q 2), .ref (q 3), .ref (q 4), .ref (q 5), .int (Rd_limit v), .int (Rd_position v), .int (Rd_token v), .int (Rd_value v), .int (Rd_place v), .int (Rd_toldRules v), .int (Rd_toldData v)]), ((q 1), aB K 700 (Rd_tape v)), ((q 2), aI K 25 (Rd_words v)), ((q 3), aI K 75 (Rd_sorts v)), ((q 4), aI K 3 (Rd_parts v)), ((q 5), aI K 64 f19), ((g 0), ob 3 [.ref (g 1), .ref (g 2), .ref (g 3), .ref (g 4), .ref (g 5), .ref (g 6), .ref (g 7), .ref (g 8), .int (Pg_nameCount pr), .int (Pg_size pr), .int (Pg_lines pr)]), ((g 1), aI K 64 (Pg_code pr)), ((g 2), aI K 64 (Pg_first pr)), ((g 3), aI K 64 (Pg_second pr)), ((g 4), aI K 64 (Pg_third pr)), ((g 5), aI K 8 (Pg_rules pr)), ((g 6), aI K 32 (Pg_data pr)), ((g 7), aI K 140 (Pg_names pr)), ((g 8), aI K 140 (Pg_namedPlaces pr))]) cx 5 rfl (ix_and63 _) dX6_readName_61 ef19 rfl ?_
          refine r_aload_n (pc := 62) cx dX6_readName_62 0 rfl ?_
          refine r_get (pc := 63) cx cf_X6 0 6 rfl (by decide) rfl wd_258 dX6_readName_63 ?_
          refine r_iconst (pc := 66) cx dX6_readName_66 ic_2 ?_
          refine r_aload_n (pc := 67) cx dX6_readName_67 0 rfl ?_
          refine r_get (pc := 68) cx cf_X6 0 11 rfl (by decide) rfl wd_263 dX6_readName_68 ?_
          obtain ⟨x20, ex20, hf⟩ := nm_of hf
          refine r_nm ex20 ?_
          obtain ⟨f21, ef21, hf⟩ := nm_of hf
          refine r_iast (pc := 71) (ws' := [((q 0), ob 5 [.ref (q 1), .int (Rd_filled v), .int (Rd_fault v), .int (Rd_faultPlace v), .ref (q 2), .ref (q 3), .ref (q 4), .ref (q 5), .int (Rd_limit v), .int (Rd_position v), .int (Rd_token v), .int (Rd_value v), .int (Rd_place v), .int (Rd_toldRules v), .int (Rd_toldData v)]), ((q 1), aB K 700 (Rd_tape v)), ((q 2), aI K 25 (Rd_words v)), ((q 3), aI K 75 (Rd_sorts v)), ((q 4), aI K 3 f21), ((q 5), aI K 64 f19), ((g 0), ob 3 [.ref (g 1), .ref (g 2), .ref (g 3), .ref (g 4), .ref (g 5), .ref (g 6), .ref (g 7), .ref (g 8), .int (Pg_nameCount pr), .int (Pg_size pr), .int (Pg_lines pr)]), ((g 1), aI K 64 (Pg_code pr)), ((g 2), aI K 64 (Pg_first pr)), ((g 3), aI K 64 (Pg_second pr)), ((g 4), aI K 64 (Pg_third pr)), ((g 5), aI K 8 (Pg_rules pr)), ((g 6), aI K 32 (Pg_data pr)), ((g 7), aI K 140 (Pg_names pr)), ((g 8), aI K 140 (Pg_namedPlaces pr))]) cx 4 rfl (by decide) dX6_readName_71 ef21 rfl ?_
          refine r_goto (pc := 72) (tgt := 109) cx dX6_readName_72 (by decide) ?_
          cases hf
          exact r_vret (pc := 109) cx rfl dX6_readName_109
      · have hf := ifn h9 hf
        refine r_aload_n (pc := 28) cx dX6_readName_28 0 rfl ?_
        refine r_iconst (pc := 29) cx dX6_readName_29 ic_1 ?_
        refine r_aload_n (pc := 30) cx dX6_readName_30 0 rfl ?_
        refine r_get (pc := 31) cx cf_X6 0 12 rfl (by decide) rfl wd_264 dX6_readName_31 ?_
        obtain ⟨v22, hc23, hf⟩ := bd_of hf
        refine r_Vv (pc := 34) (ws' := [((q 0), ob 5 [.ref (q 1), .int (Rd_filled v22), .int (Rd_fault v22), .int (Rd_faultPlace v22), .ref (q 2), .ref (q 3), .ref (q 4), .ref (q 5), .int (Rd_limit v22), .int (Rd_position v22), .int (Rd_token v22), .int (Rd_value v22), .int (Rd_place v22), .int (Rd_toldRules v22), .int (Rd_toldData v22)]), ((q 1), aB K 700 (Rd_tape v22)), ((q 2), aI K 25 (Rd_words v22)), ((q 3), aI K 75 (Rd_sorts v22)), ((q 4), aI K 3 (Rd_parts v22)), ((q 5), aI K 64 (Rd_wantedPlaces v22)), ((g 0), ob 3 [.ref (g 1), .ref (g 2), .ref (g 3), .ref (g 4), .ref (g 5), .ref (g 6), .ref (g 7), .ref (g 8), .int (Pg_nameCount pr), .int (Pg_size pr), .int (Pg_lines pr)]), ((g 1), aI K 64 (Pg_code pr)), ((g 2), aI K 64 (Pg_first pr)), ((g 3), aI K 64 (Pg_second pr)), ((g 4), aI K 64 (Pg_third pr)), ((g 5), aI K 8 (Pg_rules pr)), ((g 6), aI K 32 (Pg_data pr)), ((g 7), aI K 140 (Pg_names pr)), ((g 8), aI K 140 (Pg_namedPlaces pr))]) (nn := 6) cx [.int (1 : Int32), .int (Rd_place v)] [] (m_Rd_fail l D K q v (1 : Int32) (Rd_place v) hc23) yv_X6_fail wd_649 ⟨rfl, rfl⟩ (by decide) (fr_s (j := 0) rfl rfl rfl (fr_s (j := 1) rfl rfl rfl (fr_s (j := 2) rfl rfl rfl (fr_s (j := 3) rfl rfl rfl (fr_s (j := 4) rfl rfl rfl (fr_s (j := 5) rfl rfl rfl (fr_k (fr_k (fr_k (fr_k (fr_k (fr_k (fr_k (fr_k (fr_k (fr_n)))))))))))))))) rfl (by decide) 0 rfl rfl rfl (Nat.le_of_ble_eq_true rfl) dX6_readName_34 ?_
        refine r_goto (pc := 37) (tgt := 109) cx dX6_readName_37 (by decide) ?_
        cases hf
        exact r_vret (pc := 109) cx rfl dX6_readName_109
theorem yv_X6_readName : YV yX6_readName cX6_readName 3 (none) 2 := ⟨⟨by decide +kernel, by decide +kernel, by decide +kernel⟩, wd_664, wd_90, wd_663, wd_10⟩
def f_Rd_least (v : T_Rd) (a1 : Int32) : Option (Int32) :=
  (if a1 = (104 : Int32) then (some (((Rd_parts v) (0 : Int32).toNatClampNeg) + (1 : Int32))) else (if a1 = (115 : Int32) then (some (1 : Int32)) else (if a1 = (113 : Int32) then (some (1 : Int32)) else (if a1 = (116 : Int32) then (some (1 : Int32)) else (some (0 : Int32))))))
abbrev rm_Rd_least : Room := { frames := 0, cells := 0, slots := 0, locals := 0 }
set_option maxRecDepth 100000 in
set_option maxHeartbeats 4000000 in
theorem m_Rd_least (l : Launch) (D : va_G) (K : Nat → ClassId) (q : Nat → Nat) (v : T_Rd) (a1 : Int32) {r_ : Int32} (hf : f_Rd_least v a1 = some r_) : MI l yX6_least cX6_least 2 (some .int) rm_Rd_least D K [.ref (q 0), .int a1] (cl_Rd K q v) r_ (cl_Rd K q v) := by
  refine MI_of (loc0 := [(0, .ref (q 0)), (1, .int a1)]) (by decide +kernel) rfl (Nat.le_of_ble_eq_true rfl) ?_
  intro p e s m args below meth c A cx
  unfold f_Rd_least at hf
  refine r_ws (ws' := [((q 0), ob 5 [.ref (q 1), .int (Rd_filled v), .int (Rd_fault v), .int (Rd_faultPlace v), .ref (q 2), .ref (q 3), .ref (q 4), .ref (q 5), .int (Rd_limit v), .int (Rd_position v), .int (Rd_token v), .int (Rd_value v), .int (Rd_place v), .int (Rd_toldRules v), .int (Rd_toldData v)]), ((q 1), aB K 700 (Rd_tape v)), ((q 2), aI K 25 (Rd_words v)), ((q 3), aI K 75 (Rd_sorts v)), ((q 4), aI K 3 (Rd_parts v)), ((q 5), aI K 64 (Rd_wantedPlaces v))]) rfl ?_
  refine r_iload_n (pc := 0) cx dX6_least_0 1 rfl ?_
  refine r_bipush (pc := 1) cx dX6_least_1 bp_104 ?_
  refine r_icmp_ne (pc := 3) (tgt := 15) cx dX6_least_3 (by decide) (fun h1 => ?_) (fun h1 => ?_)
  · have hf := ifn h1 hf
    refine r_iload_n (pc := 15) cx dX6_least_15 1 rfl ?_
    refine r_bipush (pc := 16) cx dX6_least_16 bp_115 ?_
    refine r_icmp_eq (pc := 18) (tgt := 33) cx dX6_least_18 (by decide) (fun h2 => ?_) (fun h2 => ?_)
    · have hf := ifp h2 hf
      refine r_iconst (pc := 33) cx dX6_least_33 ic_1 ?_
      refine r_goto (pc := 34) (tgt := 38) cx dX6_least_34 (by decide) ?_
      cases hf
      exact r_iret (pc := 38) cx rfl rfl dX6_least_38
    · have hf := ifn h2 hf
      refine r_iload_n (pc := 21) cx dX6_least_21 1 rfl ?_
      refine r_bipush (pc := 22) cx dX6_least_22 bp_113 ?_
      refine r_icmp_eq (pc := 24) (tgt := 33) cx dX6_least_24 (by decide) (fun h3 => ?_) (fun h3 => ?_)
      · have hf := ifp h3 hf
        refine r_iconst (pc := 33) cx dX6_least_33 ic_1 ?_
        refine r_goto (pc := 34) (tgt := 38) cx dX6_least_34 (by decide) ?_
        cases hf
        exact r_iret (pc := 38) cx rfl rfl dX6_least_38
      · have hf := ifn h3 hf
        refine r_iload_n (pc := 27) cx dX6_least_27 1 rfl ?_
        refine r_bipush (pc := 28) cx dX6_least_28 bp_116 ?_
        refine r_icmp_ne (pc := 30) (tgt := 37) cx dX6_least_30 (by decide) (fun h4 => ?_) (fun h4 => ?_)
        · have hf := ifn h4 hf
          refine r_iconst (pc := 37) cx dX6_least_37 ic_0 ?_
          cases hf
          exact r_iret (pc := 38) cx rfl rfl dX6_least_38
        · have hf := ifp h4 hf
          refine r_iconst (pc := 33) cx dX6_least_33 ic_1 ?_
          refine r_goto (pc := 34) (tgt := 38) cx dX6_least_34 (by decide) ?_
          cases hf
          exact r_iret (pc := 38) cx rfl rfl dX6_least_38
  · have hf := ifp h1 hf
    refine r_aload_n (pc := 6) cx dX6_least_6 0 rfl ?_
    refine r_get (pc := 7) cx cf_X6 0 6 rfl (by decide) rfl wd_258 dX6_least_7 ?_
    refine r_iconst (pc := 10) cx dX6_least_10 ic_0 ?_
    refine r_iald (pc := 11) cx 4 rfl (by decide) dX6_least_11 ?_
    refine r_iconst (pc := 12) cx dX6_least_12 ic_1 ?_
    refine r_iadd (pc := 13) cx dX6_least_13 ?_
    cases hf
    exact r_iret (pc := 14) cx rfl rfl dX6_least_14
theorem yv_X6_least : YV yX6_least cX6_least 2 (some .int) 1 := ⟨⟨by decide +kernel, by decide +kernel, by decide +kernel⟩, wd_672, wd_90, wd_671, wd_11⟩
def f_Rd_greatest (a0 : Int32) : Option (Int32) :=
  (if a0 = (100 : Int32) then (some (31 : Int32)) else (if a0 = (101 : Int32) then (some (99999 : Int32)) else (if a0 = (102 : Int32) then (some (3 : Int32)) else (if a0 = (103 : Int32) then (some (99999 : Int32)) else (if a0 = (104 : Int32) then (some (9 : Int32)) else (if a0 = (105 : Int32) then (some (99999 : Int32)) else (if a0 = (106 : Int32) then (some (99999 : Int32)) else (if a0 = (107 : Int32) then (some (99999 : Int32)) else (if a0 = (108 : Int32) then (some (8 : Int32)) else (if a0 = (109 : Int32) then (some (31 : Int32)) else (if a0 = (110 : Int32) then (some (99999 : Int32)) else (if a0 = (111 : Int32) then (some (99999 : Int32)) else (if a0 = (112 : Int32) then (some (99999 : Int32)) else (if a0 = (113 : Int32) then (some (8 : Int32)) else (if a0 = (114 : Int32) then (some (7 : Int32)) else (if a0 = (115 : Int32) then (some (40 : Int32)) else (if a0 = (116 : Int32) then (some (9 : Int32)) else (some (99999 : Int32)))))))))))))))))))
abbrev rm_Rd_greatest : Room := { frames := 0, cells := 0, slots := 0, locals := 0 }
set_option maxRecDepth 100000 in
set_option maxHeartbeats 4000000 in
theorem m_Rd_greatest (l : Launch) (D : va_G) (K : Nat → ClassId) (a0 : Int32) {r_ : Int32} (hf : f_Rd_greatest a0 = some r_) : MI l yX6_greatest cX6_greatest 1 (some .int) rm_Rd_greatest D K [.int a0] ([]) r_ ([]) := by
  refine MI_of (loc0 := [(0, .int a0)]) (by decide +kernel) rfl (Nat.le_of_ble_eq_true rfl) ?_
  intro p e s m args below meth c A cx
  unfold f_Rd_greatest at hf
  refine r_ws (ws' := []) rfl ?_
  refine r_iload_n (pc := 0) cx dX6_greatest_0 0 rfl ?_
  by_cases h1 : a0 = (100 : Int32)
  · have hf := ifp h1 hf
    refine r_tin (pc := 1) (tgt := 93) cx (100 : Int32) h1 dX6_greatest_1 (by decide) (by decide) rfl (by decide) ?_
    refine r_bipush (pc := 93) cx dX6_greatest_93 bp_31 ?_
    cases hf
    exact r_iret (pc := 95) cx rfl rfl dX6_greatest_95
  · have hf := ifn h1 hf
    by_cases h3 : a0 = (101 : Int32)
    · have hf := ifp h3 hf
      refine r_tin (pc := 1) (tgt := 101) cx (101 : Int32) h3 dX6_greatest_1 (by decide) (by decide) rfl (by decide) ?_
      refine r_ldc (pc := 101) cx dX6_greatest_101 wd_676 ?_
      cases hf
      exact r_iret (pc := 103) cx rfl rfl dX6_greatest_103
    · have hf := ifn h3 hf
      by_cases h4 : a0 = (102 : Int32)
      · have hf := ifp h4 hf
        refine r_tin (pc := 1) (tgt := 99) cx (102 : Int32) h4 dX6_greatest_1 (by decide) (by decide) rfl (by decide) ?_
        refine r_iconst (pc := 99) cx dX6_greatest_99 ic_3 ?_
        cases hf
        exact r_iret (pc := 100) cx rfl rfl dX6_greatest_100
      · have hf := ifn h4 hf
        by_cases h6 : a0 = (103 : Int32)
        · have hf := ifp h6 hf
          refine r_tin (pc := 1) (tgt := 101) cx (103 : Int32) h6 dX6_greatest_1 (by decide) (by decide) rfl (by decide) ?_
          refine r_ldc (pc := 101) cx dX6_greatest_101 wd_676 ?_
          cases hf
          exact r_iret (pc := 103) cx rfl rfl dX6_greatest_103
        · have hf := ifn h6 hf
          by_cases h7 : a0 = (104 : Int32)
          · have hf := ifp h7 hf
            refine r_tin (pc := 1) (tgt := 90) cx (104 : Int32) h7 dX6_greatest_1 (by decide) (by decide) rfl (by decide) ?_
            refine r_bipush (pc := 90) cx dX6_greatest_90 bp_9 ?_
            cases hf
            exact r_iret (pc := 92) cx rfl rfl dX6_greatest_92
          · have hf := ifn h7 hf
            by_cases h9 : a0 = (105 : Int32)
            · have hf := ifp h9 hf
              refine r_tin (pc := 1) (tgt := 101) cx (105 : Int32) h9 dX6_greatest_1 (by decide) (by decide) rfl (by decide) ?_
              refine r_ldc (pc := 101) cx dX6_greatest_101 wd_676 ?_
              cases hf
              exact r_iret (pc := 103) cx rfl rfl dX6_greatest_103
            · have hf := ifn h9 hf
              by_cases h11 : a0 = (106 : Int32)
              · have hf := ifp h11 hf
                refine r_tin (pc := 1) (tgt := 101) cx (106 : Int32) h11 dX6_greatest_1 (by decide) (by decide) rfl (by decide) ?_
                refine r_ldc (pc := 101) cx dX6_greatest_101 wd_676 ?_
                cases hf
                exact r_iret (pc := 103) cx rfl rfl dX6_greatest_103
              · have hf := ifn h11 hf
                by_cases h13 : a0 = (107 : Int32)
                · have hf := ifp h13 hf
                  refine r_tin (pc := 1) (tgt := 101) cx (107 : Int32) h13 dX6_greatest_1 (by decide) (by decide) rfl (by decide) ?_
                  refine r_ldc (pc := 101) cx dX6_greatest_101 wd_676 ?_
                  cases hf
                  exact r_iret (pc := 103) cx rfl rfl dX6_greatest_103
                · have hf := ifn h13 hf
                  by_cases h14 : a0 = (108 : Int32)
                  · have hf := ifp h14 hf
                    refine r_tin (pc := 1) (tgt := 87) cx (108 : Int32) h14 dX6_greatest_1 (by decide) (by decide) rfl (by decide) ?_
                    refine r_bipush (pc := 87) cx dX6_greatest_87 bp_8 ?_
                    cases hf
                    exact r_iret (pc := 89) cx rfl rfl dX6_greatest_89
                  · have hf := ifn h14 hf
                    by_cases h15 : a0 = (109 : Int32)
                    · have hf := ifp h15 hf
                      refine r_tin (pc := 1) (tgt := 93) cx (109 : Int32) h15 dX6_greatest_1 (by decide) (by decide) rfl (by decide) ?_
                      refine r_bipush (pc := 93) cx dX6_greatest_93 bp_31 ?_
                      cases hf
                      exact r_iret (pc := 95) cx rfl rfl dX6_greatest_95
                    · have hf := ifn h15 hf
                      by_cases h17 : a0 = (110 : Int32)
                      · have hf := ifp h17 hf
                        refine r_tin (pc := 1) (tgt := 101) cx (110 : Int32) h17 dX6_greatest_1 (by decide) (by decide) rfl (by decide) ?_
                        refine r_ldc (pc := 101) cx dX6_greatest_101 wd_676 ?_
                        cases hf
                        exact r_iret (pc := 103) cx rfl rfl dX6_greatest_103
                      · have hf := ifn h17 hf
                        by_cases h19 : a0 = (111 : Int32)
                        · have hf := ifp h19 hf
                          refine r_tin (pc := 1) (tgt := 101) cx (111 : Int32) h19 dX6_greatest_1 (by decide) (by decide) rfl (by decide) ?_
                          refine r_ldc (pc := 101) cx dX6_greatest_101 wd_676 ?_
                          cases hf
                          exact r_iret (pc := 103) cx rfl rfl dX6_greatest_103
                        · have hf := ifn h19 hf
                          by_cases h21 : a0 = (112 : Int32)
                          · have hf := ifp h21 hf
                            refine r_tin (pc := 1) (tgt := 101) cx (112 : Int32) h21 dX6_greatest_1 (by decide) (by decide) rfl (by decide) ?_
                            refine r_ldc (pc := 101) cx dX6_greatest_101 wd_676 ?_
                            cases hf
                            exact r_iret (pc := 103) cx rfl rfl dX6_greatest_103
                          · have hf := ifn h21 hf
                            by_cases h22 : a0 = (113 : Int32)
                            · have hf := ifp h22 hf
                              refine r_tin (pc := 1) (tgt := 87) cx (113 : Int32) h22 dX6_greatest_1 (by decide) (by decide) rfl (by decide) ?_
                              refine r_bipush (pc := 87) cx dX6_greatest_87 bp_8 ?_
                              cases hf
                              exact r_iret (pc := 89) cx rfl rfl dX6_greatest_89
                            · have hf := ifn h22 hf
                              by_cases h23 : a0 = (114 : Int32)
                              · have hf := ifp h23 hf
                                refine r_tin (pc := 1) (tgt := 96) cx (114 : Int32) h23 dX6_greatest_1 (by decide) (by decide) rfl (by decide) ?_
                                refine r_bipush (pc := 96) cx dX6_greatest_96 bp_7 ?_
                                cases hf
                                exact r_iret (pc := 98) cx rfl rfl dX6_greatest_98
                              · have hf := ifn h23 hf
                                by_cases h24 : a0 = (115 : Int32)
                                · have hf := ifp h24 hf
                                  refine r_tin (pc := 1) (tgt := 84) cx (115 : Int32) h24 dX6_greatest_1 (by decide) (by decide) rfl (by decide) ?_
                                  refine r_bipush (pc := 84) cx dX6_greatest_84 bp_40 ?_
                                  cases hf
                                  exact r_iret (pc := 86) cx rfl rfl dX6_greatest_86
                                · have hf := ifn h24 hf
                                  by_cases h25 : a0 = (116 : Int32)
                                  · have hf := ifp h25 hf
                                    refine r_tin (pc := 1) (tgt := 90) cx (116 : Int32) h25 dX6_greatest_1 (by decide) (by decide) rfl (by decide) ?_
                                    refine r_bipush (pc := 90) cx dX6_greatest_90 bp_9 ?_
                                    cases hf
                                    exact r_iret (pc := 92) cx rfl rfl dX6_greatest_92
                                  · have hf := ifn h25 hf
                                    refine r_tout (pc := 1) (tgt := 101) cx dX6_greatest_1 (by
                                      have nh1 := toInt_ne h1
                                      have mh1 : (100 : Int32).toInt = 100 := by decide
                                      rw [mh1] at nh1
                                      have nh3 := toInt_ne h3
                                      have mh3 : (101 : Int32).toInt = 101 := by decide
                                      rw [mh3] at nh3
                                      have nh4 := toInt_ne h4
                                      have mh4 : (102 : Int32).toInt = 102 := by decide
                                      rw [mh4] at nh4
                                      have nh6 := toInt_ne h6
                                      have mh6 : (103 : Int32).toInt = 103 := by decide
                                      rw [mh6] at nh6
                                      have nh7 := toInt_ne h7
                                      have mh7 : (104 : Int32).toInt = 104 := by decide
                                      rw [mh7] at nh7
                                      have nh9 := toInt_ne h9
                                      have mh9 : (105 : Int32).toInt = 105 := by decide
                                      rw [mh9] at nh9
                                      have nh11 := toInt_ne h11
                                      have mh11 : (106 : Int32).toInt = 106 := by decide
                                      rw [mh11] at nh11
                                      have nh13 := toInt_ne h13
                                      have mh13 : (107 : Int32).toInt = 107 := by decide
                                      rw [mh13] at nh13
                                      have nh14 := toInt_ne h14
                                      have mh14 : (108 : Int32).toInt = 108 := by decide
                                      rw [mh14] at nh14
                                      have nh15 := toInt_ne h15
                                      have mh15 : (109 : Int32).toInt = 109 := by decide
                                      rw [mh15] at nh15
                                      have nh17 := toInt_ne h17
                                      have mh17 : (110 : Int32).toInt = 110 := by decide
                                      rw [mh17] at nh17
                                      have nh19 := toInt_ne h19
                                      have mh19 : (111 : Int32).toInt = 111 := by decide
                                      rw [mh19] at nh19
                                      have nh21 := toInt_ne h21
                                      have mh21 : (112 : Int32).toInt = 112 := by decide
                                      rw [mh21] at nh21
                                      have nh22 := toInt_ne h22
                                      have mh22 : (113 : Int32).toInt = 113 := by decide
                                      rw [mh22] at nh22
                                      have nh23 := toInt_ne h23
                                      have mh23 : (114 : Int32).toInt = 114 := by decide
                                      rw [mh23] at nh23
                                      have nh24 := toInt_ne h24
                                      have mh24 : (115 : Int32).toInt = 115 := by decide
                                      rw [mh24] at nh24
                                      have nh25 := toInt_ne h25
                                      have mh25 : (116 : Int32).toInt = 116 := by decide
                                      rw [mh25] at nh25
                                      omega) (by decide) ?_
                                    refine r_ldc (pc := 101) cx dX6_greatest_101 wd_676 ?_
                                    cases hf
                                    exact r_iret (pc := 103) cx rfl rfl dX6_greatest_103
theorem ys_X6_greatest : YS yX6_greatest cX6_greatest 1 (some .int) 1 := ⟨⟨by decide +kernel, by decide +kernel, by decide +kernel⟩, wd_675, wd_90, wd_674⟩
def f_Rd_readPart (v : T_Rd) (pr : T_Pg) (a2 : Int32) (a3 : Int32) : Option (T_Rd) :=
  (if a2 = (110 : Int32) then (bd (f_Rd_readName v pr a2) fun (v2 : T_Rd) => (some v2)) else (if a2 = (119 : Int32) then (bd (f_Rd_readName v pr a2) fun (v40 : T_Rd) => (some v40)) else (if (Rd_token v) = (2 : Int32) then (bd (f_Rd_least v a2) fun (r6 : Int32) => (if (Rd_value v) < r6 then (bd (f_Rd_fail v (2 : Int32) (Rd_place v)) fun (v9 : T_Rd) => (some v9)) else (bd (f_Rd_greatest a2) fun (r11 : Int32) => (if (Rd_value v) ≤ r11 then (if a2 = (100 : Int32) then (if (((Rd_toldData v) >>> ((Rd_value v) &&& 31)) &&& (1 : Int32)) = (1 : Int32) then (bd (f_Rd_fail v (3 : Int32) (Rd_place v)) fun (v34 : T_Rd) => (some v34)) else (nm (fun (y25 : Int32) => ((nm ((Rd_toldData v) ||| y25) fun (x27 : Int32) => (if a3 < (0 : Int32) then (some ((Rd_tape v), (Rd_filled v), (Rd_fault v), (Rd_faultPlace v), (Rd_words v), (Rd_sorts v), (Rd_parts v), (Rd_wantedPlaces v), (Rd_limit v), (Rd_position v), (Rd_token v), (Rd_value v), (Rd_place v), (Rd_toldRules v), x27)) else (if (3 : Int32) ≤ a3 then (some ((Rd_tape v), (Rd_filled v), (Rd_fault v), (Rd_faultPlace v), (Rd_words v), (Rd_sorts v), (Rd_parts v), (Rd_wantedPlaces v), (Rd_limit v), (Rd_position v), (Rd_token v), (Rd_value v), (Rd_place v), (Rd_toldRules v), x27)) else (nm (Rd_value v) fun (x30 : Int32) => (if ix a3 3 then (nm (upd (Rd_parts v) a3.toNatClampNeg x30) fun (f32 : Nat → Int32) => (some ((Rd_tape v), (Rd_filled v), (Rd_fault v), (Rd_faultPlace v), (Rd_words v), (Rd_sorts v), f32, (Rd_wantedPlaces v), (Rd_limit v), (Rd_position v), (Rd_token v), (Rd_value v), (Rd_place v), (Rd_toldRules v), x27))) else none))))) : Option (T_Rd))) fun J26 => (if a2 = (100 : Int32) then (J26 ((1 : Int32) <<< ((Rd_value v) &&& 31))) else (J26 (0 : Int32))))) else (nm (fun (y15 : Int32) => ((nm ((Rd_toldData v) ||| y15) fun (x17 : Int32) => (if a3 < (0 : Int32) then (some ((Rd_tape v), (Rd_filled v), (Rd_fault v), (Rd_faultPlace v), (Rd_words v), (Rd_sorts v), (Rd_parts v), (Rd_wantedPlaces v), (Rd_limit v), (Rd_position v), (Rd_token v), (Rd_value v), (Rd_place v), (Rd_toldRules v), x17)) else (if (3 : Int32) ≤ a3 then (some ((Rd_tape v), (Rd_filled v), (Rd_fault v), (Rd_faultPlace v), (Rd_words v), (Rd_sorts v), (Rd_parts v), (Rd_wantedPlaces v), (Rd_limit v), (Rd_position v), (Rd_token v), (Rd_value v), (Rd_place v), (Rd_toldRules v), x17)) else (nm (Rd_value v) fun (x20 : Int32) => (if ix a3 3 then (nm (upd (Rd_parts v) a3.toNatClampNeg x20) fun (f22 : Nat → Int32) => (some ((Rd_tape v), (Rd_filled v), (Rd_fault v), (Rd_faultPlace v), (Rd_words v), (Rd_sorts v), f22, (Rd_wantedPlaces v), (Rd_limit v), (Rd_position v), (Rd_token v), (Rd_value v), (Rd_place v), (Rd_toldRules v), x17))) else none))))) : Option (T_Rd))) fun J16 => (if a2 = (100 : Int32) then (J16 ((1 : Int32) <<< ((Rd_value v) &&& 31))) else (J16 (0 : Int32))))) else (bd (f_Rd_fail v (2 : Int32) (Rd_place v)) fun (v36 : T_Rd) => (some v36)))))) else (bd (f_Rd_fail v (1 : Int32) (Rd_place v)) fun (v38 : T_Rd) => (some v38)))))
abbrev rm_Rd_readPart : Room := { frames := 2, cells := 0, slots := 0, locals := 44 }
set_option maxRecDepth 100000 in
set_option maxHeartbeats 4000000 in
theorem m_Rd_readPart (l : Launch) (D : va_G) (K : Nat → ClassId) (q : Nat → Nat) (v : T_Rd) (g : Nat → Nat) (pr : T_Pg) (a2 : Int32) (a3 : Int32) {o_v : T_Rd} (hf : f_Rd_readPart v pr a2 a3 = some o_v) : MV l yX6_readPart cX6_readPart 4 (none) rm_Rd_readPart D K [.ref (q 0), .ref (g 0), .int a2, .int a3] (cl_Rd K q v ++ (cl_Pg K g pr)) (cl_Rd K q o_v ++ (cl_Pg K g pr)) := by
  refine MV_of (loc0 := [(0, .ref (q 0)), (1, .ref (g 0)), (2, .int a2), (3, .int a3)]) (by decide +kernel) rfl (Nat.le_of_ble_eq_true rfl) ?_
  intro p e s m args below meth c A cx
  unfold f_Rd_readPart at hf
  refine r_ws (ws' := [((q 0), ob 5 [.ref (q 1), .int (Rd_filled v), .int (Rd_fault v), .int (Rd_faultPlace v), .ref (q 2), .ref (q 3), .ref (q 4), .ref (q 5), .int (Rd_limit v), .int (Rd_position v), .int (Rd_token v), .int (Rd_value v), .int (Rd_place v), .int (Rd_toldRules v), .int (Rd_toldData v)]), ((q 1), aB K 700 (Rd_tape v)), ((q 2), aI K 25 (Rd_words v)), ((q 3), aI K 75 (Rd_sorts v)), ((q 4), aI K 3 (Rd_parts v)), ((q 5), aI K 64 (Rd_wantedPlaces v)), ((g 0), ob 3 [.ref (g 1), .ref (g 2), .ref (g 3), .ref (g 4), .ref (g 5), .ref (g 6), .ref (g 7), .ref (g 8), .int (Pg_nameCount pr), .int (Pg_size pr), .int (Pg_lines pr)]), ((g 1), aI K 64 (Pg_code pr)), ((g 2), aI K 64 (Pg_first pr)), ((g 3), aI K 64 (Pg_second pr)), ((g 4), aI K 64 (Pg_third pr)), ((g 5), aI K 8 (Pg_rules pr)), ((g 6), aI K 32 (Pg_data pr)), ((g 7), aI K 140 (Pg_names pr)), ((g 8), aI K 140 (Pg_namedPlaces pr))]) rfl ?_
  refine r_iload_n (pc := 0) cx dX6_readPart_0 2 rfl ?_
  refine r_bipush (pc := 1) cx dX6_readPart_1 bp_110 ?_
  refine r_icmp_eq (pc := 3) (tgt := 12) cx dX6_readPart_3 (by decide) (fun h1 => ?_) (fun h1 => ?_)
  · have hf := ifp h1 hf
    refine r_aload_n (pc := 12) cx dX6_readPart_12 0 rfl ?_
    refine r_aload_n (pc := 13) cx dX6_readPart_13 1 rfl ?_
    refine r_iload_n (pc := 14) cx dX6_readPart_14 2 rfl ?_
    obtain ⟨v2, hc3, hf⟩ := bd_of hf
    refine r_Vv (pc := 15) (ws' := [((q 0), ob 5 [.ref (q 1), .int (Rd_filled v2), .int (Rd_fault v2), .int (Rd_faultPlace v2), .ref (q 2), .ref (q 3), .ref (q 4), .ref (q 5), .int (Rd_limit v2), .int (Rd_position v2), .int (Rd_token v2), .int (Rd_value v2), .int (Rd_place v2), .int (Rd_toldRules v2), .int (Rd_toldData v2)]), ((q 1), aB K 700 (Rd_tape v2)), ((q 2), aI K 25 (Rd_words v2)), ((q 3), aI K 75 (Rd_sorts v2)), ((q 4), aI K 3 (Rd_parts v2)), ((q 5), aI K 64 (Rd_wantedPlaces v2)), ((g 0), ob 3 [.ref (g 1), .ref (g 2), .ref (g 3), .ref (g 4), .ref (g 5), .ref (g 6), .ref (g 7), .ref (g 8), .int (Pg_nameCount pr), .int (Pg_size pr), .int (Pg_lines pr)]), ((g 1), aI K 64 (Pg_code pr)), ((g 2), aI K 64 (Pg_first pr)), ((g 3), aI K 64 (Pg_second pr)), ((g 4), aI K 64 (Pg_third pr)), ((g 5), aI K 8 (Pg_rules pr)), ((g 6), aI K 32 (Pg_data pr)), ((g 7), aI K 140 (Pg_names pr)), ((g 8), aI K 140 (Pg_namedPlaces pr))]) (nn := 15) cx [.ref (g 0), .int a2] [] (m_Rd_readName l D K q v g pr a2 hc3) yv_X6_readName wd_661 ⟨rfl, rfl⟩ (by decide) (fr_s (j := 0) rfl rfl rfl (fr_s (j := 1) rfl rfl rfl (fr_s (j := 2) rfl rfl rfl (fr_s (j := 3) rfl rfl rfl (fr_s (j := 4) rfl rfl rfl (fr_s (j := 5) rfl rfl rfl (fr_s (j := 6) rfl rfl rfl (fr_s (j := 7) rfl rfl rfl (fr_s (j := 8) rfl rfl rfl (fr_s (j := 9) rfl rfl rfl (fr_s (j := 10) rfl rfl rfl (fr_s (j := 11) rfl rfl rfl (fr_s (j := 12) rfl rfl rfl (fr_s (j := 13) rfl rfl rfl (fr_s (j := 14) rfl rfl rfl (fr_n)))))))))))))))) rfl (by decide) 0 rfl rfl rfl (Nat.le_of_ble_eq_true rfl) dX6_readPart_15 ?_
    refine r_goto (pc := 18) (tgt := 153) cx dX6_readPart_18 (by decide) ?_
    cases hf
    exact r_vret (pc := 153) cx rfl dX6_readPart_153
  · have hf := ifn h1 hf
    refine r_iload_n (pc := 6) cx dX6_readPart_6 2 rfl ?_
    refine r_bipush (pc := 7) cx dX6_readPart_7 bp_119 ?_
    refine r_icmp_ne (pc := 9) (tgt := 21) cx dX6_readPart_9 (by decide) (fun h4 => ?_) (fun h4 => ?_)
    · have hf := ifn h4 hf
      refine r_aload_n (pc := 21) cx dX6_readPart_21 0 rfl ?_
      refine r_get (pc := 22) cx cf_X6 0 10 rfl (by decide) rfl wd_262 dX6_readPart_22 ?_
      refine r_iconst (pc := 25) cx dX6_readPart_25 ic_2 ?_
      refine r_icmp_eq (pc := 26) (tgt := 41) cx dX6_readPart_26 (by decide) (fun h5 => ?_) (fun h5 => ?_)
      · have hf := ifp h5 hf
        refine r_aload_n (pc := 41) cx dX6_readPart_41 0 rfl ?_
        refine r_get (pc := 42) cx cf_X6 0 11 rfl (by decide) rfl wd_263 dX6_readPart_42 ?_
        refine r_aload_n (pc := 45) cx dX6_readPart_45 0 rfl ?_
        refine r_iload_n (pc := 46) cx dX6_readPart_46 2 rfl ?_
        obtain ⟨r6, hc7, hf⟩ := bd_of hf
        refine r_Vi (pc := 47) (ws' := [((q 0), ob 5 [.ref (q 1), .int (Rd_filled v), .int (Rd_fault v), .int (Rd_faultPlace v), .ref (q 2), .ref (q 3), .ref (q 4), .ref (q 5), .int (Rd_limit v), .int (Rd_position v), .int (Rd_token v), .int (Rd_value v), .int (Rd_place v), .int (Rd_toldRules v), .int (Rd_toldData v)]), ((q 1), aB K 700 (Rd_tape v)), ((q 2), aI K 25 (Rd_words v)), ((q 3), aI K 75 (Rd_sorts v)), ((q 4), aI K 3 (Rd_parts v)), ((q 5), aI K 64 (Rd_wantedPlaces v)), ((g 0), ob 3 [.ref (g 1), .ref (g 2), .ref (g 3), .ref (g 4), .ref (g 5), .ref (g 6), .ref (g 7), .ref (g 8), .int (Pg_nameCount pr), .int (Pg_size pr), .int (Pg_lines pr)]), ((g 1), aI K 64 (Pg_code pr)), ((g 2), aI K 64 (Pg_first pr)), ((g 3), aI K 64 (Pg_second pr)), ((g 4), aI K 64 (Pg_third pr)), ((g 5), aI K 8 (Pg_rules pr)), ((g 6), aI K 32 (Pg_data pr)), ((g 7), aI K 140 (Pg_names pr)), ((g 8), aI K 140 (Pg_namedPlaces pr))]) (nn := 6) cx [.int a2] [.int (Rd_value v)] (m_Rd_least l D K q v a2 hc7) yv_X6_least wd_669 ⟨rfl, rfl⟩ (by decide) (fr_s (j := 0) rfl rfl rfl (fr_s (j := 1) rfl rfl rfl (fr_s (j := 2) rfl rfl rfl (fr_s (j := 3) rfl rfl rfl (fr_s (j := 4) rfl rfl rfl (fr_s (j := 5) rfl rfl rfl (fr_k (fr_k (fr_k (fr_k (fr_k (fr_k (fr_k (fr_k (fr_k (fr_n)))))))))))))))) rfl (by decide) 0 rfl rfl rfl (Nat.le_of_ble_eq_true rfl) dX6_readPart_47 ?_
        refine r_icmp_lt (pc := 50) (tgt := 64) cx dX6_readPart_50 (by decide) (fun h8 => ?_) (fun h8 => ?_)
        · have hf := ifp h8 hf
          refine r_aload_n (pc := 64) cx dX6_readPart_64 0 rfl ?_
          refine r_iconst (pc := 65) cx dX6_readPart_65 ic_2 ?_
          refine r_aload_n (pc := 66) cx dX6_readPart_66 0 rfl ?_
          refine r_get (pc := 67) cx cf_X6 0 12 rfl (by decide) rfl wd_264 dX6_readPart_67 ?_
          obtain ⟨v9, hc10, hf⟩ := bd_of hf
          refine r_Vv (pc := 70) (ws' := [((q 0), ob 5 [.ref (q 1), .int (Rd_filled v9), .int (Rd_fault v9), .int (Rd_faultPlace v9), .ref (q 2), .ref (q 3), .ref (q 4), .ref (q 5), .int (Rd_limit v9), .int (Rd_position v9), .int (Rd_token v9), .int (Rd_value v9), .int (Rd_place v9), .int (Rd_toldRules v9), .int (Rd_toldData v9)]), ((q 1), aB K 700 (Rd_tape v9)), ((q 2), aI K 25 (Rd_words v9)), ((q 3), aI K 75 (Rd_sorts v9)), ((q 4), aI K 3 (Rd_parts v9)), ((q 5), aI K 64 (Rd_wantedPlaces v9)), ((g 0), ob 3 [.ref (g 1), .ref (g 2), .ref (g 3), .ref (g 4), .ref (g 5), .ref (g 6), .ref (g 7), .ref (g 8), .int (Pg_nameCount pr), .int (Pg_size pr), .int (Pg_lines pr)]), ((g 1), aI K 64 (Pg_code pr)), ((g 2), aI K 64 (Pg_first pr)), ((g 3), aI K 64 (Pg_second pr)), ((g 4), aI K 64 (Pg_third pr)), ((g 5), aI K 8 (Pg_rules pr)), ((g 6), aI K 32 (Pg_data pr)), ((g 7), aI K 140 (Pg_names pr)), ((g 8), aI K 140 (Pg_namedPlaces pr))]) (nn := 6) cx [.int (2 : Int32), .int (Rd_place v)] [] (m_Rd_fail l D K q v (2 : Int32) (Rd_place v) hc10) yv_X6_fail wd_649 ⟨rfl, rfl⟩ (by decide) (fr_s (j := 0) rfl rfl rfl (fr_s (j := 1) rfl rfl rfl (fr_s (j := 2) rfl rfl rfl (fr_s (j := 3) rfl rfl rfl (fr_s (j := 4) rfl rfl rfl (fr_s (j := 5) rfl rfl rfl (fr_k (fr_k (fr_k (fr_k (fr_k (fr_k (fr_k (fr_k (fr_k (fr_n)))))))))))))))) rfl (by decide) 0 rfl rfl rfl (Nat.le_of_ble_eq_true rfl) dX6_readPart_70 ?_
          refine r_goto (pc := 73) (tgt := 153) cx dX6_readPart_73 (by decide) ?_
          cases hf
          exact r_vret (pc := 153) cx rfl dX6_readPart_153
        · have hf := ifn h8 hf
          refine r_aload_n (pc := 53) cx dX6_readPart_53 0 rfl ?_
          refine r_get (pc := 54) cx cf_X6 0 11 rfl (by decide) rfl wd_263 dX6_readPart_54 ?_
          refine r_iload_n (pc := 57) cx dX6_readPart_57 2 rfl ?_
          obtain ⟨r11, hc12, hf⟩ := bd_of hf
          refine r_Si (pc := 58) (ws' := [((q 0), ob 5 [.ref (q 1), .int (Rd_filled v), .int (Rd_fault v), .int (Rd_faultPlace v), .ref (q 2), .ref (q 3), .ref (q 4), .ref (q 5), .int (Rd_limit v), .int (Rd_position v), .int (Rd_token v), .int (Rd_value v), .int (Rd_place v), .int (Rd_toldRules v), .int (Rd_toldData v)]), ((q 1), aB K 700 (Rd_tape v)), ((q 2), aI K 25 (Rd_words v)), ((q 3), aI K 75 (Rd_sorts v)), ((q 4), aI K 3 (Rd_parts v)), ((q 5), aI K 64 (Rd_wantedPlaces v)), ((g 0), ob 3 [.ref (g 1), .ref (g 2), .ref (g 3), .ref (g 4), .ref (g 5), .ref (g 6), .ref (g 7), .ref (g 8), .int (Pg_nameCount pr), .int (Pg_size pr), .int (Pg_lines pr)]), ((g 1), aI K 64 (Pg_code pr)), ((g 2), aI K 64 (Pg_first pr)), ((g 3), aI K 64 (Pg_second pr)), ((g 4), aI K 64 (Pg_third pr)), ((g 5), aI K 8 (Pg_rules pr)), ((g 6), aI K 32 (Pg_data pr)), ((g 7), aI K 140 (Pg_names pr)), ((g 8), aI K 140 (Pg_namedPlaces pr))]) (nn := 0) cx [.int a2] [.int (Rd_value v)] (m_Rd_greatest l D K a2 hc12) ys_X6_greatest wd_673 ⟨rfl, rfl⟩ (by decide) (fr_k (fr_k (fr_k (fr_k (fr_k (fr_k (fr_k (fr_k (fr_k (fr_k (fr_k (fr_k (fr_k (fr_k (fr_k (fr_n)))))))))))))))) rfl (by decide) rfl (Nat.le_of_ble_eq_true rfl) dX6_readPart_58 ?_
          refine r_icmp_le (pc := 61) (tgt := 76) cx dX6_readPart_61 (by decide) (fun h13 => ?_) (fun h13 => ?_)
          · have hf := ifp h13 hf
            refine r_iload_n (pc := 76) cx dX6_readPart_76 2 rfl ?_
            refine r_bipush (pc := 77) cx dX6_readPart_77 bp_100 ?_
            refine r_icmp_ne (pc := 79) (tgt := 109) cx dX6_readPart_79 (by decide) (fun h14 => ?_) (fun h14 => ?_)
            · have hf := ifn h14 hf
              refine r_aload_n (pc := 109) cx dX6_readPart_109 0 rfl ?_
              refine r_dup (pc := 110) cx dX6_readPart_110 rfl ?_
              refine r_get (pc := 111) cx cf_X6 0 14 rfl (by decide) rfl wd_266 dX6_readPart_111 ?_
              refine r_iload_n (pc := 114) cx dX6_readPart_114 2 rfl ?_
              refine r_bipush (pc := 115) cx dX6_readPart_115 bp_100 ?_
              obtain ⟨J16, eJ16, hf⟩ := nm_of hf
              have hJ16 : ∀ (y15 : Int32), J16 y15 = some o_v → WW p l e rm_Rd_readPart s m args below meth c D A 4 0 0 (MQ below (QV D K A (cl_Rd K q o_v ++ (cl_Pg K g pr))) args s 0 0 A) ([((q 0), ob 5 [.ref (q 1), .int (Rd_filled v), .int (Rd_fault v), .int (Rd_faultPlace v), .ref (q 2), .ref (q 3), .ref (q 4), .ref (q 5), .int (Rd_limit v), .int (Rd_position v), .int (Rd_token v), .int (Rd_value v), .int (Rd_place v), .int (Rd_toldRules v), .int (Rd_toldData v)]), ((q 1), aB K 700 (Rd_tape v)), ((q 2), aI K 25 (Rd_words v)), ((q 3), aI K 75 (Rd_sorts v)), ((q 4), aI K 3 (Rd_parts v)), ((q 5), aI K 64 (Rd_wantedPlaces v)), ((g 0), ob 3 [.ref (g 1), .ref (g 2), .ref (g 3), .ref (g 4), .ref (g 5), .ref (g 6), .ref (g 7), .ref (g 8), .int (Pg_nameCount pr), .int (Pg_size pr), .int (Pg_lines pr)]), ((g 1), aI K 64 (Pg_code pr)), ((g 2), aI K 64 (Pg_first pr)), ((g 3), aI K 64 (Pg_second pr)), ((g 4), aI K 64 (Pg_third pr)), ((g 5), aI K 8 (Pg_rules pr)), ((g 6), aI K 32 (Pg_data pr)), ((g 7), aI K 140 (Pg_names pr)), ((g 8), aI K 140 (Pg_namedPlaces pr))]) ([(0, .ref (q 0)), (3, .int a3)]) ([.int y15, .int (Rd_toldData v), .ref (q 0)]) 130 := by
                intro y15 hf
                rw [eJ16] at hf
                refine r_ior (pc := 130) cx dX6_readPart_130 ?_
                obtain ⟨x17, ex17, hf⟩ := nm_of hf
                refine r_nm ex17 ?_
                refine r_putI (pc := 131) (ws' := [((q 0), ob 5 [.ref (q 1), .int (Rd_filled v), .int (Rd_fault v), .int (Rd_faultPlace v), .ref (q 2), .ref (q 3), .ref (q 4), .ref (q 5), .int (Rd_limit v), .int (Rd_position v), .int (Rd_token v), .int (Rd_value v), .int (Rd_place v), .int (Rd_toldRules v), .int x17]), ((q 1), aB K 700 (Rd_tape v)), ((q 2), aI K 25 (Rd_words v)), ((q 3), aI K 75 (Rd_sorts v)), ((q 4), aI K 3 (Rd_parts v)), ((q 5), aI K 64 (Rd_wantedPlaces v)), ((g 0), ob 3 [.ref (g 1), .ref (g 2), .ref (g 3), .ref (g 4), .ref (g 5), .ref (g 6), .ref (g 7), .ref (g 8), .int (Pg_nameCount pr), .int (Pg_size pr), .int (Pg_lines pr)]), ((g 1), aI K 64 (Pg_code pr)), ((g 2), aI K 64 (Pg_first pr)), ((g 3), aI K 64 (Pg_second pr)), ((g 4), aI K 64 (Pg_third pr)), ((g 5), aI K 8 (Pg_rules pr)), ((g 6), aI K 32 (Pg_data pr)), ((g 7), aI K 140 (Pg_names pr)), ((g 8), aI K 140 (Pg_namedPlaces pr))]) cx cf_X6 0 14 rfl (by decide) (Nat.le_of_ble_eq_true rfl) rfl pfd_I wd_266 dX6_readPart_131 rfl ?_
                refine r_iload_n (pc := 134) cx dX6_readPart_134 1 rfl ?_
                refine r_if_lt (pc := 135) (tgt := 153) cx dX6_readPart_135 (by decide) (fun h18 => ?_) (fun h18 => ?_)
                · have hf := ifp h18 hf
                  cases hf
                  exact r_vret (pc := 153) cx rfl dX6_readPart_153
                · have hf := ifn h18 hf
                  refine r_iload_n (pc := 138) cx dX6_readPart_138 1 rfl ?_
                  refine r_iconst (pc := 139) cx dX6_readPart_139 ic_3 ?_
                  refine r_icmp_ge (pc := 140) (tgt := 153) cx dX6_readPart_140 (by decide) (fun h19 => ?_) (fun h19 => ?_)
                  · have hf := ifp h19 hf
                    cases hf
                    exact r_vret (pc := 153) cx rfl dX6_readPart_153
                  · have hf := ifn h19 hf
                    refine r_aload_n (pc := 143) cx dX6_readPart_143 0 rfl ?_
                    refine r_get (pc := 144) cx cf_X6 0 6 rfl (by decide) rfl wd_258 dX6_readPart_144 ?_
                    refine r_iload_n (pc := 147) cx dX6_readPart_147 1 rfl ?_
                    refine r_aload_n (pc := 148) cx dX6_readPart_148 0 rfl ?_
                    refine r_get (pc := 149) cx cf_X6 0 11 rfl (by decide) rfl wd_263 dX6_readPart_149 ?_
                    obtain ⟨x20, ex20, hf⟩ := nm_of hf
                    refine r_nm ex20 ?_
                    obtain ⟨h21, hf⟩ := chk_of hf
                    obtain ⟨f22, ef22, hf⟩ := nm_of hf
                    refine r_iast (pc := 152) (ws' := [((q 0), ob 5 [.ref (q 1), .int (Rd_filled v), .int (Rd_fault v), .int (Rd_faultPlace v), .ref (q 2), .ref (q 3), .ref (q 4), .ref (q 5), .int (Rd_limit v), .int (Rd_position v), .int (Rd_token v), .int (Rd_value v), .int (Rd_place v), .int (Rd_toldRules v), .int x17]), ((q 1), aB K 700 (Rd_tape v)), ((q 2), aI K 25 (Rd_words v)), ((q 3), aI K 75 (Rd_sorts v)), ((q 4), aI K 3 f22), ((q 5), aI K 64 (Rd_wantedPlaces v)), ((g 0), ob 3 [.ref (g 1), .ref (g 2), .ref (g 3), .ref (g 4), .ref (g 5), .ref (g 6), .ref (g 7), .ref (g 8), .int (Pg_nameCount pr), .int (Pg_size pr), .int (Pg_lines pr)]), ((g 1), aI K 64 (Pg_code pr)), ((g 2), aI K 64 (Pg_first pr)), ((g 3), aI K 64 (Pg_second pr)), ((g 4), aI K 64 (Pg_third pr)), ((g 5), aI K 8 (Pg_rules pr)), ((g 6), aI K 32 (Pg_data pr)), ((g 7), aI K 140 (Pg_names pr)), ((g 8), aI K 140 (Pg_namedPlaces pr))]) cx 4 rfl h21 dX6_readPart_152 ef22 rfl ?_
                    cases hf
                    exact r_vret (pc := 153) cx rfl dX6_readPart_153
              refine r_icmp_ne (pc := 117) (tgt := 129) cx dX6_readPart_117 (by decide) (fun h23 => ?_) (fun h23 => ?_)
              · have hf := ifn h23 hf
                refine r_iconst (pc := 129) cx dX6_readPart_129 ic_0 ?_
                refine r_loc (loc' := [(0, .ref (q 0)), (3, .int a3)]) [0, 3] rfl ?_
                exact hJ16 _ hf
              · have hf := ifp h23 hf
                refine r_iconst (pc := 120) cx dX6_readPart_120 ic_1 ?_
                refine r_aload_n (pc := 121) cx dX6_readPart_121 0 rfl ?_
                refine r_get (pc := 122) cx cf_X6 0 11 rfl (by decide) rfl wd_263 dX6_readPart_122 ?_
                refine r_ishl (pc := 125) cx dX6_readPart_125 ?_
                refine r_goto (pc := 126) (tgt := 130) cx dX6_readPart_126 (by decide) ?_
                refine r_loc (loc' := [(0, .ref (q 0)), (3, .int a3)]) [0, 3] rfl ?_
                exact hJ16 _ hf
            · have hf := ifp h14 hf
              refine r_aload_n (pc := 82) cx dX6_readPart_82 0 rfl ?_
              refine r_get (pc := 83) cx cf_X6 0 14 rfl (by decide) rfl wd_266 dX6_readPart_83 ?_
              refine r_aload_n (pc := 86) cx dX6_readPart_86 0 rfl ?_
              refine r_get (pc := 87) cx cf_X6 0 11 rfl (by decide) rfl wd_263 dX6_readPart_87 ?_
              refine r_ishr (pc := 90) cx dX6_readPart_90 ?_
              refine r_iconst (pc := 91) cx dX6_readPart_91 ic_1 ?_
              refine r_iand (pc := 92) cx dX6_readPart_92 ?_
              refine r_iconst (pc := 93) cx dX6_readPart_93 ic_1 ?_
              refine r_icmp_ne (pc := 94) (tgt := 109) cx dX6_readPart_94 (by decide) (fun h24 => ?_) (fun h24 => ?_)
              · have hf := ifn h24 hf
                refine r_aload_n (pc := 109) cx dX6_readPart_109 0 rfl ?_
                refine r_dup (pc := 110) cx dX6_readPart_110 rfl ?_
                refine r_get (pc := 111) cx cf_X6 0 14 rfl (by decide) rfl wd_266 dX6_readPart_111 ?_
                refine r_iload_n (pc := 114) cx dX6_readPart_114 2 rfl ?_
                refine r_bipush (pc := 115) cx dX6_readPart_115 bp_100 ?_
                obtain ⟨J26, eJ26, hf⟩ := nm_of hf
                have hJ26 : ∀ (y25 : Int32), J26 y25 = some o_v → WW p l e rm_Rd_readPart s m args below meth c D A 4 0 0 (MQ below (QV D K A (cl_Rd K q o_v ++ (cl_Pg K g pr))) args s 0 0 A) ([((q 0), ob 5 [.ref (q 1), .int (Rd_filled v), .int (Rd_fault v), .int (Rd_faultPlace v), .ref (q 2), .ref (q 3), .ref (q 4), .ref (q 5), .int (Rd_limit v), .int (Rd_position v), .int (Rd_token v), .int (Rd_value v), .int (Rd_place v), .int (Rd_toldRules v), .int (Rd_toldData v)]), ((q 1), aB K 700 (Rd_tape v)), ((q 2), aI K 25 (Rd_words v)), ((q 3), aI K 75 (Rd_sorts v)), ((q 4), aI K 3 (Rd_parts v)), ((q 5), aI K 64 (Rd_wantedPlaces v)), ((g 0), ob 3 [.ref (g 1), .ref (g 2), .ref (g 3), .ref (g 4), .ref (g 5), .ref (g 6), .ref (g 7), .ref (g 8), .int (Pg_nameCount pr), .int (Pg_size pr), .int (Pg_lines pr)]), ((g 1), aI K 64 (Pg_code pr)), ((g 2), aI K 64 (Pg_first pr)), ((g 3), aI K 64 (Pg_second pr)), ((g 4), aI K 64 (Pg_third pr)), ((g 5), aI K 8 (Pg_rules pr)), ((g 6), aI K 32 (Pg_data pr)), ((g 7), aI K 140 (Pg_names pr)), ((g 8), aI K 140 (Pg_namedPlaces pr))]) ([(0, .ref (q 0)), (3, .int a3)]) ([.int y25, .int (Rd_toldData v), .ref (q 0)]) 130 := by
                  intro y25 hf
                  rw [eJ26] at hf
                  refine r_ior (pc := 130) cx dX6_readPart_130 ?_
                  obtain ⟨x27, ex27, hf⟩ := nm_of hf
                  refine r_nm ex27 ?_
                  refine r_putI (pc := 131) (ws' := [((q 0), ob 5 [.ref (q 1), .int (Rd_filled v), .int (Rd_fault v), .int (Rd_faultPlace v), .ref (q 2), .ref (q 3), .ref (q 4), .ref (q 5), .int (Rd_limit v), .int (Rd_position v), .int (Rd_token v), .int (Rd_value v), .int (Rd_place v), .int (Rd_toldRules v), .int x27]), ((q 1), aB K 700 (Rd_tape v)), ((q 2), aI K 25 (Rd_words v)), ((q 3), aI K 75 (Rd_sorts v)), ((q 4), aI K 3 (Rd_parts v)), ((q 5), aI K 64 (Rd_wantedPlaces v)), ((g 0), ob 3 [.ref (g 1), .ref (g 2), .ref (g 3), .ref (g 4), .ref (g 5), .ref (g 6), .ref (g 7), .ref (g 8), .int (Pg_nameCount pr), .int (Pg_size pr), .int (Pg_lines pr)]), ((g 1), aI K 64 (Pg_code pr)), ((g 2), aI K 64 (Pg_first pr)), ((g 3), aI K 64 (Pg_second pr)), ((g 4), aI K 64 (Pg_third pr)), ((g 5), aI K 8 (Pg_rules pr)), ((g 6), aI K 32 (Pg_data pr)), ((g 7), aI K 140 (Pg_names pr)), ((g 8), aI K 140 (Pg_namedPlaces pr))]) cx cf_X6 0 14 rfl (by decide) (Nat.le_of_ble_eq_true rfl) rfl pfd_I wd_266 dX6_readPart_131 rfl ?_
                  refine r_iload_n (pc := 134) cx dX6_readPart_134 1 rfl ?_
                  refine r_if_lt (pc := 135) (tgt := 153) cx dX6_readPart_135 (by decide) (fun h28 => ?_) (fun h28 => ?_)
                  · have hf := ifp h28 hf
                    cases hf
                    exact r_vret (pc := 153) cx rfl dX6_readPart_153
                  · have hf := ifn h28 hf
                    refine r_iload_n (pc := 138) cx dX6_readPart_138 1 rfl ?_
                    refine r_iconst (pc := 139) cx dX6_readPart_139 ic_3 ?_
                    refine r_icmp_ge (pc := 140) (tgt := 153) cx dX6_readPart_140 (by decide) (fun h29 => ?_) (fun h29 => ?_)
                    · have hf := ifp h29 hf
                      cases hf
                      exact r_vret (pc := 153) cx rfl dX6_readPart_153
                    · have hf := ifn h29 hf
                      refine r_aload_n (pc := 143) cx dX6_readPart_143 0 rfl ?_
                      refine r_get (pc := 144) cx cf_X6 0 6 rfl (by decide) rfl wd_258 dX6_readPart_144 ?_
                      refine r_iload_n (pc := 147) cx dX6_readPart_147 1 rfl ?_
                      refine r_aload_n (pc := 148) cx dX6_readPart_148 0 rfl ?_
                      refine r_get (pc := 149) cx cf_X6 0 11 rfl (by decide) rfl wd_263 dX6_readPart_149 ?_
                      obtain ⟨x30, ex30, hf⟩ := nm_of hf
                      refine r_nm ex30 ?_
                      obtain ⟨h31, hf⟩ := chk_of hf
                      obtain ⟨f32, ef32, hf⟩ := nm_of hf
                      refine r_iast (pc := 152) (ws' := [((q 0), ob 5 [.ref (q 1), .int (Rd_filled v), .int (Rd_fault v), .int (Rd_faultPlace v), .ref (q 2), .ref (q 3), .ref (q 4), .ref (q 5), .int (Rd_limit v), .int (Rd_position v), .int (Rd_token v), .int (Rd_value v), .int (Rd_place v), .int (Rd_toldRules v), .int x27]), ((q 1), aB K 700 (Rd_tape v)), ((q 2), aI K 25 (Rd_words v)), ((q 3), aI K 75 (Rd_sorts v)), ((q 4), aI K 3 f32), ((q 5), aI K 64 (Rd_wantedPlaces v)), ((g 0), ob 3 [.ref (g 1), .ref (g 2), .ref (g 3), .ref (g 4), .ref (g 5), .ref (g 6), .ref (g 7), .ref (g 8), .int (Pg_nameCount pr), .int (Pg_size pr), .int (Pg_lines pr)]), ((g 1), aI K 64 (Pg_code pr)), ((g 2), aI K 64 (Pg_first pr)), ((g 3), aI K 64 (Pg_second pr)), ((g 4), aI K 64 (Pg_third pr)), ((g 5), aI K 8 (Pg_rules pr)), ((g 6), aI K 32 (Pg_data pr)), ((g 7), aI K 140 (Pg_names pr)), ((g 8), aI K 140 (Pg_namedPlaces pr))]) cx 4 rfl h31 dX6_readPart_152 ef32 rfl ?_
                      cases hf
                      exact r_vret (pc := 153) cx rfl dX6_readPart_153
                refine r_icmp_ne (pc := 117) (tgt := 129) cx dX6_readPart_117 (by decide) (fun h33 => ?_) (fun h33 => ?_)
                · have hf := ifn h33 hf
                  refine r_iconst (pc := 129) cx dX6_readPart_129 ic_0 ?_
                  refine r_loc (loc' := [(0, .ref (q 0)), (3, .int a3)]) [0, 3] rfl ?_
                  exact hJ26 _ hf
                · have hf := ifp h33 hf
                  refine r_iconst (pc := 120) cx dX6_readPart_120 ic_1 ?_
                  refine r_aload_n (pc := 121) cx dX6_readPart_121 0 rfl ?_
                  refine r_get (pc := 122) cx cf_X6 0 11 rfl (by decide) rfl wd_263 dX6_readPart_122 ?_
                  refine r_ishl (pc := 125) cx dX6_readPart_125 ?_
                  refine r_goto (pc := 126) (tgt := 130) cx dX6_readPart_126 (by decide) ?_
                  refine r_loc (loc' := [(0, .ref (q 0)), (3, .int a3)]) [0, 3] rfl ?_
                  exact hJ26 _ hf
              · have hf := ifp h24 hf
                refine r_aload_n (pc := 97) cx dX6_readPart_97 0 rfl ?_
                refine r_iconst (pc := 98) cx dX6_readPart_98 ic_3 ?_
                refine r_aload_n (pc := 99) cx dX6_readPart_99 0 rfl ?_
                refine r_get (pc := 100) cx cf_X6 0 12 rfl (by decide) rfl wd_264 dX6_readPart_100 ?_
                obtain ⟨v34, hc35, hf⟩ := bd_of hf
                refine r_Vv (pc := 103) (ws' := [((q 0), ob 5 [.ref (q 1), .int (Rd_filled v34), .int (Rd_fault v34), .int (Rd_faultPlace v34), .ref (q 2), .ref (q 3), .ref (q 4), .ref (q 5), .int (Rd_limit v34), .int (Rd_position v34), .int (Rd_token v34), .int (Rd_value v34), .int (Rd_place v34), .int (Rd_toldRules v34), .int (Rd_toldData v34)]), ((q 1), aB K 700 (Rd_tape v34)), ((q 2), aI K 25 (Rd_words v34)), ((q 3), aI K 75 (Rd_sorts v34)), ((q 4), aI K 3 (Rd_parts v34)), ((q 5), aI K 64 (Rd_wantedPlaces v34)), ((g 0), ob 3 [.ref (g 1), .ref (g 2), .ref (g 3), .ref (g 4), .ref (g 5), .ref (g 6), .ref (g 7), .ref (g 8), .int (Pg_nameCount pr), .int (Pg_size pr), .int (Pg_lines pr)]), ((g 1), aI K 64 (Pg_code pr)), ((g 2), aI K 64 (Pg_first pr)), ((g 3), aI K 64 (Pg_second pr)), ((g 4), aI K 64 (Pg_third pr)), ((g 5), aI K 8 (Pg_rules pr)), ((g 6), aI K 32 (Pg_data pr)), ((g 7), aI K 140 (Pg_names pr)), ((g 8), aI K 140 (Pg_namedPlaces pr))]) (nn := 6) cx [.int (3 : Int32), .int (Rd_place v)] [] (m_Rd_fail l D K q v (3 : Int32) (Rd_place v) hc35) yv_X6_fail wd_649 ⟨rfl, rfl⟩ (by decide) (fr_s (j := 0) rfl rfl rfl (fr_s (j := 1) rfl rfl rfl (fr_s (j := 2) rfl rfl rfl (fr_s (j := 3) rfl rfl rfl (fr_s (j := 4) rfl rfl rfl (fr_s (j := 5) rfl rfl rfl (fr_k (fr_k (fr_k (fr_k (fr_k (fr_k (fr_k (fr_k (fr_k (fr_n)))))))))))))))) rfl (by decide) 0 rfl rfl rfl (Nat.le_of_ble_eq_true rfl) dX6_readPart_103 ?_
                refine r_goto (pc := 106) (tgt := 153) cx dX6_readPart_106 (by decide) ?_
                cases hf
                exact r_vret (pc := 153) cx rfl dX6_readPart_153
          · have hf := ifn h13 hf
            refine r_aload_n (pc := 64) cx dX6_readPart_64 0 rfl ?_
            refine r_iconst (pc := 65) cx dX6_readPart_65 ic_2 ?_
            refine r_aload_n (pc := 66) cx dX6_readPart_66 0 rfl ?_
            refine r_get (pc := 67) cx cf_X6 0 12 rfl (by decide) rfl wd_264 dX6_readPart_67 ?_
            obtain ⟨v36, hc37, hf⟩ := bd_of hf
            refine r_Vv (pc := 70) (ws' := [((q 0), ob 5 [.ref (q 1), .int (Rd_filled v36), .int (Rd_fault v36), .int (Rd_faultPlace v36), .ref (q 2), .ref (q 3), .ref (q 4), .ref (q 5), .int (Rd_limit v36), .int (Rd_position v36), .int (Rd_token v36), .int (Rd_value v36), .int (Rd_place v36), .int (Rd_toldRules v36), .int (Rd_toldData v36)]), ((q 1), aB K 700 (Rd_tape v36)), ((q 2), aI K 25 (Rd_words v36)), ((q 3), aI K 75 (Rd_sorts v36)), ((q 4), aI K 3 (Rd_parts v36)), ((q 5), aI K 64 (Rd_wantedPlaces v36)), ((g 0), ob 3 [.ref (g 1), .ref (g 2), .ref (g 3), .ref (g 4), .ref (g 5), .ref (g 6), .ref (g 7), .ref (g 8), .int (Pg_nameCount pr), .int (Pg_size pr), .int (Pg_lines pr)]), ((g 1), aI K 64 (Pg_code pr)), ((g 2), aI K 64 (Pg_first pr)), ((g 3), aI K 64 (Pg_second pr)), ((g 4), aI K 64 (Pg_third pr)), ((g 5), aI K 8 (Pg_rules pr)), ((g 6), aI K 32 (Pg_data pr)), ((g 7), aI K 140 (Pg_names pr)), ((g 8), aI K 140 (Pg_namedPlaces pr))]) (nn := 6) cx [.int (2 : Int32), .int (Rd_place v)] [] (m_Rd_fail l D K q v (2 : Int32) (Rd_place v) hc37) yv_X6_fail wd_649 ⟨rfl, rfl⟩ (by decide) (fr_s (j := 0) rfl rfl rfl (fr_s (j := 1) rfl rfl rfl (fr_s (j := 2) rfl rfl rfl (fr_s (j := 3) rfl rfl rfl (fr_s (j := 4) rfl rfl rfl (fr_s (j := 5) rfl rfl rfl (fr_k (fr_k (fr_k (fr_k (fr_k (fr_k (fr_k (fr_k (fr_k (fr_n)))))))))))))))) rfl (by decide) 0 rfl rfl rfl (Nat.le_of_ble_eq_true rfl) dX6_readPart_70 ?_
            refine r_goto (pc := 73) (tgt := 153) cx dX6_readPart_73 (by decide) ?_
            cases hf
            exact r_vret (pc := 153) cx rfl dX6_readPart_153
      · have hf := ifn h5 hf
        refine r_aload_n (pc := 29) cx dX6_readPart_29 0 rfl ?_
        refine r_iconst (pc := 30) cx dX6_readPart_30 ic_1 ?_
        refine r_aload_n (pc := 31) cx dX6_readPart_31 0 rfl ?_
        refine r_get (pc := 32) cx cf_X6 0 12 rfl (by decide) rfl wd_264 dX6_readPart_32 ?_
        obtain ⟨v38, hc39, hf⟩ := bd_of hf
        refine r_Vv (pc := 35) (ws' := [((q 0), ob 5 [.ref (q 1), .int (Rd_filled v38), .int (Rd_fault v38), .int (Rd_faultPlace v38), .ref (q 2), .ref (q 3), .ref (q 4), .ref (q 5), .int (Rd_limit v38), .int (Rd_position v38), .int (Rd_token v38), .int (Rd_value v38), .int (Rd_place v38), .int (Rd_toldRules v38), .int (Rd_toldData v38)]), ((q 1), aB K 700 (Rd_tape v38)), ((q 2), aI K 25 (Rd_words v38)), ((q 3), aI K 75 (Rd_sorts v38)), ((q 4), aI K 3 (Rd_parts v38)), ((q 5), aI K 64 (Rd_wantedPlaces v38)), ((g 0), ob 3 [.ref (g 1), .ref (g 2), .ref (g 3), .ref (g 4), .ref (g 5), .ref (g 6), .ref (g 7), .ref (g 8), .int (Pg_nameCount pr), .int (Pg_size pr), .int (Pg_lines pr)]), ((g 1), aI K 64 (Pg_code pr)), ((g 2), aI K 64 (Pg_first pr)), ((g 3), aI K 64 (Pg_second pr)), ((g 4), aI K 64 (Pg_third pr)), ((g 5), aI K 8 (Pg_rules pr)), ((g 6), aI K 32 (Pg_data pr)), ((g 7), aI K 140 (Pg_names pr)), ((g 8), aI K 140 (Pg_namedPlaces pr))]) (nn := 6) cx [.int (1 : Int32), .int (Rd_place v)] [] (m_Rd_fail l D K q v (1 : Int32) (Rd_place v) hc39) yv_X6_fail wd_649 ⟨rfl, rfl⟩ (by decide) (fr_s (j := 0) rfl rfl rfl (fr_s (j := 1) rfl rfl rfl (fr_s (j := 2) rfl rfl rfl (fr_s (j := 3) rfl rfl rfl (fr_s (j := 4) rfl rfl rfl (fr_s (j := 5) rfl rfl rfl (fr_k (fr_k (fr_k (fr_k (fr_k (fr_k (fr_k (fr_k (fr_k (fr_n)))))))))))))))) rfl (by decide) 0 rfl rfl rfl (Nat.le_of_ble_eq_true rfl) dX6_readPart_35 ?_
        refine r_goto (pc := 38) (tgt := 153) cx dX6_readPart_38 (by decide) ?_
        cases hf
        exact r_vret (pc := 153) cx rfl dX6_readPart_153
    · have hf := ifp h4 hf
      refine r_aload_n (pc := 12) cx dX6_readPart_12 0 rfl ?_
      refine r_aload_n (pc := 13) cx dX6_readPart_13 1 rfl ?_
      refine r_iload_n (pc := 14) cx dX6_readPart_14 2 rfl ?_
      obtain ⟨v40, hc41, hf⟩ := bd_of hf
      refine r_Vv (pc := 15) (ws' := [((q 0), ob 5 [.ref (q 1), .int (Rd_filled v40), .int (Rd_fault v40), .int (Rd_faultPlace v40), .ref (q 2), .ref (q 3), .ref (q 4), .ref (q 5), .int (Rd_limit v40), .int (Rd_position v40), .int (Rd_token v40), .int (Rd_value v40), .int (Rd_place v40), .int (Rd_toldRules v40), .int (Rd_toldData v40)]), ((q 1), aB K 700 (Rd_tape v40)), ((q 2), aI K 25 (Rd_words v40)), ((q 3), aI K 75 (Rd_sorts v40)), ((q 4), aI K 3 (Rd_parts v40)), ((q 5), aI K 64 (Rd_wantedPlaces v40)), ((g 0), ob 3 [.ref (g 1), .ref (g 2), .ref (g 3), .ref (g 4), .ref (g 5), .ref (g 6), .ref (g 7), .ref (g 8), .int (Pg_nameCount pr), .int (Pg_size pr), .int (Pg_lines pr)]), ((g 1), aI K 64 (Pg_code pr)), ((g 2), aI K 64 (Pg_first pr)), ((g 3), aI K 64 (Pg_second pr)), ((g 4), aI K 64 (Pg_third pr)), ((g 5), aI K 8 (Pg_rules pr)), ((g 6), aI K 32 (Pg_data pr)), ((g 7), aI K 140 (Pg_names pr)), ((g 8), aI K 140 (Pg_namedPlaces pr))]) (nn := 15) cx [.ref (g 0), .int a2] [] (m_Rd_readName l D K q v g pr a2 hc41) yv_X6_readName wd_661 ⟨rfl, rfl⟩ (by decide) (fr_s (j := 0) rfl rfl rfl (fr_s (j := 1) rfl rfl rfl (fr_s (j := 2) rfl rfl rfl (fr_s (j := 3) rfl rfl rfl (fr_s (j := 4) rfl rfl rfl (fr_s (j := 5) rfl rfl rfl (fr_s (j := 6) rfl rfl rfl (fr_s (j := 7) rfl rfl rfl (fr_s (j := 8) rfl rfl rfl (fr_s (j := 9) rfl rfl rfl (fr_s (j := 10) rfl rfl rfl (fr_s (j := 11) rfl rfl rfl (fr_s (j := 12) rfl rfl rfl (fr_s (j := 13) rfl rfl rfl (fr_s (j := 14) rfl rfl rfl (fr_n)))))))))))))))) rfl (by decide) 0 rfl rfl rfl (Nat.le_of_ble_eq_true rfl) dX6_readPart_15 ?_
      refine r_goto (pc := 18) (tgt := 153) cx dX6_readPart_18 (by decide) ?_
      cases hf
      exact r_vret (pc := 153) cx rfl dX6_readPart_153
theorem yv_X6_readPart : YV yX6_readPart cX6_readPart 4 (none) 3 := ⟨⟨by decide +kernel, by decide +kernel, by decide +kernel⟩, wd_660, wd_90, wd_659, wd_9⟩
def f_Rd_firstRule (a0 : Int32) : Option (Int32) :=
  (if a0 = (0 : Int32) then (some (0 : Int32)) else (if a0 = (1 : Int32) then (some (1 : Int32)) else (if a0 = (2 : Int32) then (some (3 : Int32)) else (if a0 = (3 : Int32) then (some (6 : Int32)) else (some (7 : Int32))))))
abbrev rm_Rd_firstRule : Room := { frames := 0, cells := 0, slots := 0, locals := 0 }
set_option maxRecDepth 100000 in
set_option maxHeartbeats 4000000 in
theorem m_Rd_firstRule (l : Launch) (D : va_G) (K : Nat → ClassId) (a0 : Int32) {r_ : Int32} (hf : f_Rd_firstRule a0 = some r_) : MI l yX6_firstRule cX6_firstRule 1 (some .int) rm_Rd_firstRule D K [.int a0] ([]) r_ ([]) := by
  refine MI_of (loc0 := [(0, .int a0)]) (by decide +kernel) rfl (Nat.le_of_ble_eq_true rfl) ?_
  intro p e s m args below meth c A cx
  unfold f_Rd_firstRule at hf
  refine r_ws (ws' := []) rfl ?_
  refine r_iload_n (pc := 0) cx dX6_firstRule_0 0 rfl ?_
  by_cases h1 : a0 = (0 : Int32)
  · have hf := ifp h1 hf
    refine r_tin (pc := 1) (tgt := 32) cx (0 : Int32) h1 dX6_firstRule_1 (by decide) (by decide) rfl (by decide) ?_
    refine r_iconst (pc := 32) cx dX6_firstRule_32 ic_0 ?_
    cases hf
    exact r_iret (pc := 33) cx rfl rfl dX6_firstRule_33
  · have hf := ifn h1 hf
    by_cases h2 : a0 = (1 : Int32)
    · have hf := ifp h2 hf
      refine r_tin (pc := 1) (tgt := 34) cx (1 : Int32) h2 dX6_firstRule_1 (by decide) (by decide) rfl (by decide) ?_
      refine r_iconst (pc := 34) cx dX6_firstRule_34 ic_1 ?_
      cases hf
      exact r_iret (pc := 35) cx rfl rfl dX6_firstRule_35
    · have hf := ifn h2 hf
      by_cases h3 : a0 = (2 : Int32)
      · have hf := ifp h3 hf
        refine r_tin (pc := 1) (tgt := 36) cx (2 : Int32) h3 dX6_firstRule_1 (by decide) (by decide) rfl (by decide) ?_
        refine r_iconst (pc := 36) cx dX6_firstRule_36 ic_3 ?_
        cases hf
        exact r_iret (pc := 37) cx rfl rfl dX6_firstRule_37
      · have hf := ifn h3 hf
        by_cases h4 : a0 = (3 : Int32)
        · have hf := ifp h4 hf
          refine r_tin (pc := 1) (tgt := 38) cx (3 : Int32) h4 dX6_firstRule_1 (by decide) (by decide) rfl (by decide) ?_
          refine r_bipush (pc := 38) cx dX6_firstRule_38 bp_6 ?_
          cases hf
          exact r_iret (pc := 40) cx rfl rfl dX6_firstRule_40
        · have hf := ifn h4 hf
          refine r_tout (pc := 1) (tgt := 41) cx dX6_firstRule_1 (by
            have nh1 := toInt_ne h1
            have mh1 : (0 : Int32).toInt = 0 := by decide
            rw [mh1] at nh1
            have nh2 := toInt_ne h2
            have mh2 : (1 : Int32).toInt = 1 := by decide
            rw [mh2] at nh2
            have nh3 := toInt_ne h3
            have mh3 : (2 : Int32).toInt = 2 := by decide
            rw [mh3] at nh3
            have nh4 := toInt_ne h4
            have mh4 : (3 : Int32).toInt = 3 := by decide
            rw [mh4] at nh4
            omega) (by decide) ?_
          refine r_bipush (pc := 41) cx dX6_firstRule_41 bp_7 ?_
          cases hf
          exact r_iret (pc := 43) cx rfl rfl dX6_firstRule_43
theorem ys_X6_firstRule : YS yX6_firstRule cX6_firstRule 1 (some .int) 1 := ⟨⟨by decide +kernel, by decide +kernel, by decide +kernel⟩, wd_691, wd_90, wd_690⟩
def f_Rd_takeLine_L96 (v : T_Rd) (a2 : Int32) (x4 : Int32) (k96_138 : (Nat → Int32) → Option (T_Rd × T_Pg)) : Nat → Int32 → (Nat → Int32) → Option (T_Rd × T_Pg)
  | 0, _, _ => none
  | n96 + 1, x5, f6 =>
    (if (3 : Int32) ≤ x5 then (k96_138 f6) else (bd (f_Rd_sortOf ((Rd_tape v), (Rd_filled v), (Rd_fault v), (Rd_faultPlace v), (Rd_words v), (Rd_sorts v), (Rd_parts v), (Rd_wantedPlaces v), (Rd_limit v), (Rd_position v), (Rd_token v), (Rd_value v), (Rd_place v), x4, (Rd_toldData v)) a2 x5) fun (r9 : Int32) => (if r9 = (32 : Int32) then (nm (x5 + (1 : Int32)) fun (x12 : Int32) => (f_Rd_takeLine_L96 v a2 x4 k96_138 n96 x12 f6)) else (bd (f_Rd_firstRule a2) fun (r13 : Int32) => (if ix x5 3 then (nm ((Rd_parts v) x5.toNatClampNeg) fun (x16 : Int32) => (nm (upd f6 (((r13 + x5) &&& (7 : Int32))).toNatClampNeg x16) fun (f17 : Nat → Int32) => (nm (x5 + (1 : Int32)) fun (x18 : Int32) => (f_Rd_takeLine_L96 v a2 x4 k96_138 n96 x18 f17)))) else none)))))
def f_Rd_takeLine (v : T_Rd) (pr : T_Pg) (a2 : Int32) : Option (T_Rd × T_Pg) :=
  (if a2 < (7 : Int32) then (if a2 = (6 : Int32) then (bd (f_Pg_nameNext pr ((Rd_parts v) (0 : Int32).toNatClampNeg)) fun (v21 : T_Pg) => (some (v, v21))) else (if a2 = (5 : Int32) then (nm ((Rd_parts v) (1 : Int32).toNatClampNeg) fun (x19 : Int32) => (nm (upd (Pg_data pr) ((((Rd_parts v) (0 : Int32).toNatClampNeg) &&& (31 : Int32))).toNatClampNeg x19) fun (f20 : Nat → Int32) => (some (v, ((Pg_code pr), (Pg_first pr), (Pg_second pr), (Pg_third pr), (Pg_rules pr), f20, (Pg_names pr), (Pg_namedPlaces pr), (Pg_nameCount pr), (Pg_size pr), (Pg_lines pr)))))) else (nm ((Rd_toldRules v) ||| ((1 : Int32) <<< (a2 &&& 31))) fun (x4 : Int32) => (f_Rd_takeLine_L96 v a2 x4 (fun (f7 : (Nat → Int32)) => (some (((Rd_tape v), (Rd_filled v), (Rd_fault v), (Rd_faultPlace v), (Rd_words v), (Rd_sorts v), (Rd_parts v), (Rd_wantedPlaces v), (Rd_limit v), (Rd_position v), (Rd_token v), (Rd_value v), (Rd_place v), x4, (Rd_toldData v)), ((Pg_code pr), (Pg_first pr), (Pg_second pr), (Pg_third pr), f7, (Pg_data pr), (Pg_names pr), (Pg_namedPlaces pr), (Pg_nameCount pr), (Pg_size pr), (Pg_lines pr))))) LF (0 : Int32) (Pg_rules pr))))) else (bd (f_Pg_append pr (a2 - (7 : Int32)) ((Rd_parts v) (0 : Int32).toNatClampNeg) ((Rd_parts v) (1 : Int32).toNatClampNeg) ((Rd_parts v) (2 : Int32).toNatClampNeg)) fun (v23 : T_Pg) => (some (v, v23))))
abbrev rm_Rd_takeLine : Room := { frames := 1, cells := 0, slots := 0, locals := 25 }
set_option maxRecDepth 100000 in
set_option maxHeartbeats 4000000 in
theorem m_Rd_takeLine (l : Launch) (D : va_G) (K : Nat → ClassId) (q : Nat → Nat) (v : T_Rd) (g : Nat → Nat) (pr : T_Pg) (a2 : Int32) {o_v : T_Rd} {o_pr : T_Pg} (hf : f_Rd_takeLine v pr a2 = some (o_v, o_pr)) : MV l yX6_takeLine cX6_takeLine 4 (none) rm_Rd_takeLine D K [.ref (q 0), .ref (g 0), .int a2] (cl_Rd K q v ++ (cl_Pg K g pr)) (cl_Rd K q o_v ++ (cl_Pg K g o_pr)) := by
  refine MV_of (loc0 := [(0, .ref (q 0)), (1, .ref (g 0)), (2, .int a2)]) (by decide +kernel) rfl (Nat.le_of_ble_eq_true rfl) ?_
  intro p e s m args below meth c A cx
  unfold f_Rd_takeLine at hf
  refine r_ws (ws' := [((q 0), ob 5 [.ref (q 1), .int (Rd_filled v), .int (Rd_fault v), .int (Rd_faultPlace v), .ref (q 2), .ref (q 3), .ref (q 4), .ref (q 5), .int (Rd_limit v), .int (Rd_position v), .int (Rd_token v), .int (Rd_value v), .int (Rd_place v), .int (Rd_toldRules v), .int (Rd_toldData v)]), ((q 1), aB K 700 (Rd_tape v)), ((q 2), aI K 25 (Rd_words v)), ((q 3), aI K 75 (Rd_sorts v)), ((q 4), aI K 3 (Rd_parts v)), ((q 5), aI K 64 (Rd_wantedPlaces v)), ((g 0), ob 3 [.ref (g 1), .ref (g 2), .ref (g 3), .ref (g 4), .ref (g 5), .ref (g 6), .ref (g 7), .ref (g 8), .int (Pg_nameCount pr), .int (Pg_size pr), .int (Pg_lines pr)]), ((g 1), aI K 64 (Pg_code pr)), ((g 2), aI K 64 (Pg_first pr)), ((g 3), aI K 64 (Pg_second pr)), ((g 4), aI K 64 (Pg_third pr)), ((g 5), aI K 8 (Pg_rules pr)), ((g 6), aI K 32 (Pg_data pr)), ((g 7), aI K 140 (Pg_names pr)), ((g 8), aI K 140 (Pg_namedPlaces pr))]) rfl ?_
  refine r_iload_n (pc := 0) cx dX6_takeLine_0 2 rfl ?_
  refine r_bipush (pc := 1) cx dX6_takeLine_1 bp_7 ?_
  refine r_icmp_lt (pc := 3) (tgt := 35) cx dX6_takeLine_3 (by decide) (fun h1 => ?_) (fun h1 => ?_)
  · have hf := ifp h1 hf
    refine r_iload_n (pc := 35) cx dX6_takeLine_35 2 rfl ?_
    refine r_bipush (pc := 36) cx dX6_takeLine_36 bp_6 ?_
    refine r_icmp_ne (pc := 38) (tgt := 54) cx dX6_takeLine_38 (by decide) (fun h2 => ?_) (fun h2 => ?_)
    · have hf := ifn h2 hf
      refine r_iload_n (pc := 54) cx dX6_takeLine_54 2 rfl ?_
      refine r_iconst (pc := 55) cx dX6_takeLine_55 ic_5 ?_
      refine r_icmp_ne (pc := 56) (tgt := 82) cx dX6_takeLine_56 (by decide) (fun h3 => ?_) (fun h3 => ?_)
      · have hf := ifn h3 hf
        refine r_aload_n (pc := 82) cx dX6_takeLine_82 0 rfl ?_
        refine r_dup (pc := 83) cx dX6_takeLine_83 rfl ?_
        refine r_get (pc := 84) cx cf_X6 0 13 rfl (by decide) rfl wd_265 dX6_takeLine_84 ?_
        refine r_iconst (pc := 87) cx dX6_takeLine_87 ic_1 ?_
        refine r_iload_n (pc := 88) cx dX6_takeLine_88 2 rfl ?_
        refine r_ishl (pc := 89) cx dX6_takeLine_89 ?_
        refine r_ior (pc := 90) cx dX6_takeLine_90 ?_
        obtain ⟨x4, ex4, hf⟩ := nm_of hf
        refine r_nm ex4 ?_
        refine r_putI (pc := 91) (ws' := [((q 0), ob 5 [.ref (q 1), .int (Rd_filled v), .int (Rd_fault v), .int (Rd_faultPlace v), .ref (q 2), .ref (q 3), .ref (q 4), .ref (q 5), .int (Rd_limit v), .int (Rd_position v), .int (Rd_token v), .int (Rd_value v), .int (Rd_place v), .int x4, .int (Rd_toldData v)]), ((q 1), aB K 700 (Rd_tape v)), ((q 2), aI K 25 (Rd_words v)), ((q 3), aI K 75 (Rd_sorts v)), ((q 4), aI K 3 (Rd_parts v)), ((q 5), aI K 64 (Rd_wantedPlaces v)), ((g 0), ob 3 [.ref (g 1), .ref (g 2), .ref (g 3), .ref (g 4), .ref (g 5), .ref (g 6), .ref (g 7), .ref (g 8), .int (Pg_nameCount pr), .int (Pg_size pr), .int (Pg_lines pr)]), ((g 1), aI K 64 (Pg_code pr)), ((g 2), aI K 64 (Pg_first pr)), ((g 3), aI K 64 (Pg_second pr)), ((g 4), aI K 64 (Pg_third pr)), ((g 5), aI K 8 (Pg_rules pr)), ((g 6), aI K 32 (Pg_data pr)), ((g 7), aI K 140 (Pg_names pr)), ((g 8), aI K 140 (Pg_namedPlaces pr))]) cx cf_X6 0 13 rfl (by decide) (Nat.le_of_ble_eq_true rfl) rfl pfd_I wd_265 dX6_takeLine_91 rfl ?_
        refine r_iconst (pc := 94) cx dX6_takeLine_94 ic_0 ?_
        refine r_istore_n (pc := 95) (loc' := [(3, .int (0 : Int32)), (0, .ref (q 0)), (1, .ref (g 0)), (2, .int a2)]) cx dX6_takeLine_95 rfl (by decide) rfl ?_
        have hL96 : ∀ (k96_138 : (Nat → Int32) → Option (T_Rd × T_Pg)), (∀ (f7 : (Nat → Int32)), k96_138 f7 = some (o_v, o_pr) → WW p l e rm_Rd_takeLine s m args below meth c D A 4 0 0 (MQ below (QV D K A (cl_Rd K q o_v ++ (cl_Pg K g o_pr))) args s 0 0 A) ([((q 0), ob 5 [.ref (q 1), .int (Rd_filled v), .int (Rd_fault v), .int (Rd_faultPlace v), .ref (q 2), .ref (q 3), .ref (q 4), .ref (q 5), .int (Rd_limit v), .int (Rd_position v), .int (Rd_token v), .int (Rd_value v), .int (Rd_place v), .int x4, .int (Rd_toldData v)]), ((q 1), aB K 700 (Rd_tape v)), ((q 2), aI K 25 (Rd_words v)), ((q 3), aI K 75 (Rd_sorts v)), ((q 4), aI K 3 (Rd_parts v)), ((q 5), aI K 64 (Rd_wantedPlaces v)), ((g 0), ob 3 [.ref (g 1), .ref (g 2), .ref (g 3), .ref (g 4), .ref (g 5), .ref (g 6), .ref (g 7), .ref (g 8), .int (Pg_nameCount pr), .int (Pg_size pr), .int (Pg_lines pr)]), ((g 1), aI K 64 (Pg_code pr)), ((g 2), aI K 64 (Pg_first pr)), ((g 3), aI K 64 (Pg_second pr)), ((g 4), aI K 64 (Pg_third pr)), ((g 5), aI K 8 f7), ((g 6), aI K 32 (Pg_data pr)), ((g 7), aI K 140 (Pg_names pr)), ((g 8), aI K 140 (Pg_namedPlaces pr))]) ([]) ([]) 138) → ∀ (n96 : Nat) (x5 : Int32) (f6 : (Nat → Int32)), f_Rd_takeLine_L96 v a2 x4 k96_138 n96 x5 f6 = some (o_v, o_pr) → WW p l e rm_Rd_takeLine s m args below meth c D A 4 0 0 (MQ below (QV D K A (cl_Rd K q o_v ++ (cl_Pg K g o_pr))) args s 0 0 A) ([((q 0), ob 5 [.ref (q 1), .int (Rd_filled v), .int (Rd_fault v), .int (Rd_faultPlace v), .ref (q 2), .ref (q 3), .ref (q 4), .ref (q 5), .int (Rd_limit v), .int (Rd_position v), .int (Rd_token v), .int (Rd_value v), .int (Rd_place v), .int x4, .int (Rd_toldData v)]), ((q 1), aB K 700 (Rd_tape v)), ((q 2), aI K 25 (Rd_words v)), ((q 3), aI K 75 (Rd_sorts v)), ((q 4), aI K 3 (Rd_parts v)), ((q 5), aI K 64 (Rd_wantedPlaces v)), ((g 0), ob 3 [.ref (g 1), .ref (g 2), .ref (g 3), .ref (g 4), .ref (g 5), .ref (g 6), .ref (g 7), .ref (g 8), .int (Pg_nameCount pr), .int (Pg_size pr), .int (Pg_lines pr)]), ((g 1), aI K 64 (Pg_code pr)), ((g 2), aI K 64 (Pg_first pr)), ((g 3), aI K 64 (Pg_second pr)), ((g 4), aI K 64 (Pg_third pr)), ((g 5), aI K 8 f6), ((g 6), aI K 32 (Pg_data pr)), ((g 7), aI K 140 (Pg_names pr)), ((g 8), aI K 140 (Pg_namedPlaces pr))]) ([(0, .ref (q 0)), (1, .ref (g 0)), (2, .int a2), (3, .int x5)]) ([]) 96 := by
          intro k96_138 hk96_138 n96
          induction n96 with
          | zero => intro x5 f6 hf; exact (nomatch (show (none : Option (T_Rd × T_Pg)) = some _ from hf))
          | succ n96 ih96 =>
            intro x5 f6 hf
            rw [f_Rd_takeLine_L96] at hf
            refine r_iload_n (pc := 96) cx dX6_takeLine_96 3 rfl ?_
            refine r_iconst (pc := 97) cx dX6_takeLine_97 ic_3 ?_
            refine r_icmp_ge (pc := 98) (tgt := 138) cx dX6_takeLine_98 (by decide) (fun h8 => ?_) (fun h8 => ?_)
            · have hf := ifp h8 hf
              refine r_loc (loc' := []) [] rfl ?_
              exact hk96_138 _ hf
            · have hf := ifn h8 hf
              refine r_aload_n (pc := 101) cx dX6_takeLine_101 0 rfl ?_
              refine r_iload_n (pc := 102) cx dX6_takeLine_102 2 rfl ?_
              refine r_iload_n (pc := 103) cx dX6_takeLine_103 3 rfl ?_
              obtain ⟨r9, hc10, hf⟩ := bd_of hf
              refine r_Vi (pc := 104) (ws' := [((q 0), ob 5 [.ref (q 1), .int (Rd_filled v), .int (Rd_fault v), .int (Rd_faultPlace v), .ref (q 2), .ref (q 3), .ref (q 4), .ref (q 5), .int (Rd_limit v), .int (Rd_position v), .int (Rd_token v), .int (Rd_value v), .int (Rd_place v), .int x4, .int (Rd_toldData v)]), ((q 1), aB K 700 (Rd_tape v)), ((q 2), aI K 25 (Rd_words v)), ((q 3), aI K 75 (Rd_sorts v)), ((q 4), aI K 3 (Rd_parts v)), ((q 5), aI K 64 (Rd_wantedPlaces v)), ((g 0), ob 3 [.ref (g 1), .ref (g 2), .ref (g 3), .ref (g 4), .ref (g 5), .ref (g 6), .ref (g 7), .ref (g 8), .int (Pg_nameCount pr), .int (Pg_size pr), .int (Pg_lines pr)]), ((g 1), aI K 64 (Pg_code pr)), ((g 2), aI K 64 (Pg_first pr)), ((g 3), aI K 64 (Pg_second pr)), ((g 4), aI K 64 (Pg_third pr)), ((g 5), aI K 8 f6), ((g 6), aI K 32 (Pg_data pr)), ((g 7), aI K 140 (Pg_names pr)), ((g 8), aI K 140 (Pg_namedPlaces pr))]) (nn := 6) cx [.int a2, .int x5] [] (m_Rd_sortOf l D K q ((Rd_tape v), (Rd_filled v), (Rd_fault v), (Rd_faultPlace v), (Rd_words v), (Rd_sorts v), (Rd_parts v), (Rd_wantedPlaces v), (Rd_limit v), (Rd_position v), (Rd_token v), (Rd_value v), (Rd_place v), x4, (Rd_toldData v)) a2 x5 hc10) yv_X6_sortOf wd_653 ⟨rfl, rfl⟩ (by decide) (fr_s (j := 0) rfl rfl rfl (fr_s (j := 1) rfl rfl rfl (fr_s (j := 2) rfl rfl rfl (fr_s (j := 3) rfl rfl rfl (fr_s (j := 4) rfl rfl rfl (fr_s (j := 5) rfl rfl rfl (fr_k (fr_k (fr_k (fr_k (fr_k (fr_k (fr_k (fr_k (fr_k (fr_n)))))))))))))))) rfl (by decide) 0 rfl rfl rfl (Nat.le_of_ble_eq_true rfl) dX6_takeLine_104 ?_
              refine r_bipush (pc := 107) cx dX6_takeLine_107 bp_32 ?_
              refine r_icmp_eq (pc := 109) (tgt := 132) cx dX6_takeLine_109 (by decide) (fun h11 => ?_) (fun h11 => ?_)
              · have hf := ifp h11 hf
                obtain ⟨x12, ex12, hf⟩ := nm_of hf
                refine r_iinc (pc := 132) (loc' := [(3, .int x12), (0, .ref (q 0)), (1, .ref (g 0)), (2, .int a2)]) (v := x12) cx dX6_takeLine_132 3 rfl ((congrArg (fun z => x5 + z) ic_1).trans ex12.symm) (by decide) rfl ?_
                refine r_goto (pc := 135) (tgt := 96) cx dX6_takeLine_135 (by decide) ?_
                refine r_loc (loc' := [(0, .ref (q 0)), (1, .ref (g 0)), (2, .int a2), (3, .int x12)]) [1, 2, 3, 0] rfl ?_
                exact ih96 _ _ hf
              · have hf := ifn h11 hf
                refine r_aload_n (pc := 112) cx dX6_takeLine_112 1 rfl ?_
                refine r_get (pc := 113) cx cf_X4 6 4 rfl (by decide) rfl wd_146 dX6_takeLine_113 ?_
                refine r_iload_n (pc := 116) cx dX6_takeLine_116 2 rfl ?_
                obtain ⟨r13, hc14, hf⟩ := bd_of hf
                refine r_Si (pc := 117) (ws' := [((q 0), ob 5 [.ref (q 1), .int (Rd_filled v), .int (Rd_fault v), .int (Rd_faultPlace v), .ref (q 2), .ref (q 3), .ref (q 4), .ref (q 5), .int (Rd_limit v), .int (Rd_position v), .int (Rd_token v), .int (Rd_value v), .int (Rd_place v), .int x4, .int (Rd_toldData v)]), ((q 1), aB K 700 (Rd_tape v)), ((q 2), aI K 25 (Rd_words v)), ((q 3), aI K 75 (Rd_sorts v)), ((q 4), aI K 3 (Rd_parts v)), ((q 5), aI K 64 (Rd_wantedPlaces v)), ((g 0), ob 3 [.ref (g 1), .ref (g 2), .ref (g 3), .ref (g 4), .ref (g 5), .ref (g 6), .ref (g 7), .ref (g 8), .int (Pg_nameCount pr), .int (Pg_size pr), .int (Pg_lines pr)]), ((g 1), aI K 64 (Pg_code pr)), ((g 2), aI K 64 (Pg_first pr)), ((g 3), aI K 64 (Pg_second pr)), ((g 4), aI K 64 (Pg_third pr)), ((g 5), aI K 8 f6), ((g 6), aI K 32 (Pg_data pr)), ((g 7), aI K 140 (Pg_names pr)), ((g 8), aI K 140 (Pg_namedPlaces pr))]) (nn := 0) cx [.int a2] [.ref (g 5)] (m_Rd_firstRule l D K a2 hc14) ys_X6_firstRule wd_689 ⟨rfl, rfl⟩ (by decide) (fr_k (fr_k (fr_k (fr_k (fr_k (fr_k (fr_k (fr_k (fr_k (fr_k (fr_k (fr_k (fr_k (fr_k (fr_k (fr_n)))))))))))))))) rfl (by decide) rfl (Nat.le_of_ble_eq_true rfl) dX6_takeLine_117 ?_
                refine r_iload_n (pc := 120) cx dX6_takeLine_120 3 rfl ?_
                refine r_iadd (pc := 121) cx dX6_takeLine_121 ?_
                refine r_bipush (pc := 122) cx dX6_takeLine_122 bp_7 ?_
                refine r_iand (pc := 124) cx dX6_takeLine_124 ?_
                refine r_aload_n (pc := 125) cx dX6_takeLine_125 0 rfl ?_
                refine r_get (pc := 126) cx cf_X6 0 6 rfl (by decide) rfl wd_258 dX6_takeLine_126 ?_
                refine r_iload_n (pc := 129) cx dX6_takeLine_129 3 rfl ?_
                obtain ⟨h15, hf⟩ := chk_of hf
                refine r_iald (pc := 130) cx 4 rfl h15 dX6_takeLine_130 ?_
                obtain ⟨x16, ex16, hf⟩ := nm_of hf
                refine r_nm ex16 ?_
                obtain ⟨f17, ef17, hf⟩ := nm_of hf
                refine r_iast (pc := 131) (ws' := [((q 0), ob 5 [.ref (q 1), .int (Rd_filled v), .int (Rd_fault v), .int (Rd_faultPlace v), .ref (q 2), .ref (q 3), .ref (q 4), .ref (q 5), .int (Rd_limit v), .int (Rd_position v), .int (Rd_token v), .int (Rd_value v), .int (Rd_place v), .int x4, .int (Rd_toldData v)]), ((q 1), aB K 700 (Rd_tape v)), ((q 2), aI K 25 (Rd_words v)), ((q 3), aI K 75 (Rd_sorts v)), ((q 4), aI K 3 (Rd_parts v)), ((q 5), aI K 64 (Rd_wantedPlaces v)), ((g 0), ob 3 [.ref (g 1), .ref (g 2), .ref (g 3), .ref (g 4), .ref (g 5), .ref (g 6), .ref (g 7), .ref (g 8), .int (Pg_nameCount pr), .int (Pg_size pr), .int (Pg_lines pr)]), ((g 1), aI K 64 (Pg_code pr)), ((g 2), aI K 64 (Pg_first pr)), ((g 3), aI K 64 (Pg_second pr)), ((g 4), aI K 64 (Pg_third pr)), ((g 5), aI K 8 f17), ((g 6), aI K 32 (Pg_data pr)), ((g 7), aI K 140 (Pg_names pr)), ((g 8), aI K 140 (Pg_namedPlaces pr))]) cx 11 rfl (ix_and7 _) dX6_takeLine_131 ef17 rfl ?_
                obtain ⟨x18, ex18, hf⟩ := nm_of hf
                refine r_iinc (pc := 132) (loc' := [(3, .int x18), (0, .ref (q 0)), (1, .ref (g 0)), (2, .int a2)]) (v := x18) cx dX6_takeLine_132 3 rfl ((congrArg (fun z => x5 + z) ic_1).trans ex18.symm) (by decide) rfl ?_
                refine r_goto (pc := 135) (tgt := 96) cx dX6_takeLine_135 (by decide) ?_
                refine r_loc (loc' := [(0, .ref (q 0)), (1, .ref (g 0)), (2, .int a2), (3, .int x18)]) [1, 2, 3, 0] rfl ?_
                exact ih96 _ _ hf
        refine r_loc (loc' := [(0, .ref (q 0)), (1, .ref (g 0)), (2, .int a2), (3, .int (0 : Int32))]) [1, 2, 3, 0] rfl ?_
        refine hL96 _ (fun f7 hf => ?_) _ _ _ hf
        cases hf
        exact r_vret (pc := 138) cx rfl dX6_takeLine_138
      · have hf := ifp h3 hf
        refine r_aload_n (pc := 59) cx dX6_takeLine_59 1 rfl ?_
        refine r_get (pc := 60) cx cf_X4 6 5 rfl (by decide) rfl wd_151 dX6_takeLine_60 ?_
        refine r_aload_n (pc := 63) cx dX6_takeLine_63 0 rfl ?_
        refine r_get (pc := 64) cx cf_X6 0 6 rfl (by decide) rfl wd_258 dX6_takeLine_64 ?_
        refine r_iconst (pc := 67) cx dX6_takeLine_67 ic_0 ?_
        refine r_iald (pc := 68) cx 4 rfl (by decide) dX6_takeLine_68 ?_
        refine r_bipush (pc := 69) cx dX6_takeLine_69 bp_31 ?_
        refine r_iand (pc := 71) cx dX6_takeLine_71 ?_
        refine r_aload_n (pc := 72) cx dX6_takeLine_72 0 rfl ?_
        refine r_get (pc := 73) cx cf_X6 0 6 rfl (by decide) rfl wd_258 dX6_takeLine_73 ?_
        refine r_iconst (pc := 76) cx dX6_takeLine_76 ic_1 ?_
        refine r_iald (pc := 77) cx 4 rfl (by decide) dX6_takeLine_77 ?_
        obtain ⟨x19, ex19, hf⟩ := nm_of hf
        refine r_nm ex19 ?_
        obtain ⟨f20, ef20, hf⟩ := nm_of hf
        refine r_iast (pc := 78) (ws' := [((q 0), ob 5 [.ref (q 1), .int (Rd_filled v), .int (Rd_fault v), .int (Rd_faultPlace v), .ref (q 2), .ref (q 3), .ref (q 4), .ref (q 5), .int (Rd_limit v), .int (Rd_position v), .int (Rd_token v), .int (Rd_value v), .int (Rd_place v), .int (Rd_toldRules v), .int (Rd_toldData v)]), ((q 1), aB K 700 (Rd_tape v)), ((q 2), aI K 25 (Rd_words v)), ((q 3), aI K 75 (Rd_sorts v)), ((q 4), aI K 3 (Rd_parts v)), ((q 5), aI K 64 (Rd_wantedPlaces v)), ((g 0), ob 3 [.ref (g 1), .ref (g 2), .ref (g 3), .ref (g 4), .ref (g 5), .ref (g 6), .ref (g 7), .ref (g 8), .int (Pg_nameCount pr), .int (Pg_size pr), .int (Pg_lines pr)]), ((g 1), aI K 64 (Pg_code pr)), ((g 2), aI K 64 (Pg_first pr)), ((g 3), aI K 64 (Pg_second pr)), ((g 4), aI K 64 (Pg_third pr)), ((g 5), aI K 8 (Pg_rules pr)), ((g 6), aI K 32 f20), ((g 7), aI K 140 (Pg_names pr)), ((g 8), aI K 140 (Pg_namedPlaces pr))]) cx 12 rfl (ix_and31 _) dX6_takeLine_78 ef20 rfl ?_
        refine r_goto (pc := 79) (tgt := 138) cx dX6_takeLine_79 (by decide) ?_
        cases hf
        exact r_vret (pc := 138) cx rfl dX6_takeLine_138
    · have hf := ifp h2 hf
      refine r_aload_n (pc := 41) cx dX6_takeLine_41 1 rfl ?_
      refine r_aload_n (pc := 42) cx dX6_takeLine_42 0 rfl ?_
      refine r_get (pc := 43) cx cf_X6 0 6 rfl (by decide) rfl wd_258 dX6_takeLine_43 ?_
      refine r_iconst (pc := 46) cx dX6_takeLine_46 ic_0 ?_
      refine r_iald (pc := 47) cx 4 rfl (by decide) dX6_takeLine_47 ?_
      obtain ⟨v21, hc22, hf⟩ := bd_of hf
      refine r_Vv (pc := 48) (ws' := [((q 0), ob 5 [.ref (q 1), .int (Rd_filled v), .int (Rd_fault v), .int (Rd_faultPlace v), .ref (q 2), .ref (q 3), .ref (q 4), .ref (q 5), .int (Rd_limit v), .int (Rd_position v), .int (Rd_token v), .int (Rd_value v), .int (Rd_place v), .int (Rd_toldRules v), .int (Rd_toldData v)]), ((q 1), aB K 700 (Rd_tape v)), ((q 2), aI K 25 (Rd_words v)), ((q 3), aI K 75 (Rd_sorts v)), ((q 4), aI K 3 (Rd_parts v)), ((q 5), aI K 64 (Rd_wantedPlaces v)), ((g 0), ob 3 [.ref (g 1), .ref (g 2), .ref (g 3), .ref (g 4), .ref (g 5), .ref (g 6), .ref (g 7), .ref (g 8), .int (Pg_nameCount v21), .int (Pg_size v21), .int (Pg_lines v21)]), ((g 1), aI K 64 (Pg_code v21)), ((g 2), aI K 64 (Pg_first v21)), ((g 3), aI K 64 (Pg_second v21)), ((g 4), aI K 64 (Pg_third v21)), ((g 5), aI K 8 (Pg_rules v21)), ((g 6), aI K 32 (Pg_data v21)), ((g 7), aI K 140 (Pg_names v21)), ((g 8), aI K 140 (Pg_namedPlaces v21))]) (nn := 9) cx [.int ((Rd_parts v) (0 : Int32).toNatClampNeg)] [] (m_Pg_nameNext l D K g pr ((Rd_parts v) (0 : Int32).toNatClampNeg) hc22) yv_X4_nameNext wd_685 ⟨rfl, rfl⟩ (by decide) (fr_k (fr_k (fr_k (fr_k (fr_k (fr_k (fr_s (j := 0) rfl rfl rfl (fr_s (j := 1) rfl rfl rfl (fr_s (j := 2) rfl rfl rfl (fr_s (j := 3) rfl rfl rfl (fr_s (j := 4) rfl rfl rfl (fr_s (j := 5) rfl rfl rfl (fr_s (j := 6) rfl rfl rfl (fr_s (j := 7) rfl rfl rfl (fr_s (j := 8) rfl rfl rfl (fr_n)))))))))))))))) rfl (by decide) 6 rfl rfl rfl (Nat.le_of_ble_eq_true rfl) dX6_takeLine_48 ?_
      refine r_goto (pc := 51) (tgt := 138) cx dX6_takeLine_51 (by decide) ?_
      cases hf
      exact r_vret (pc := 138) cx rfl dX6_takeLine_138
  · have hf := ifn h1 hf
    refine r_aload_n (pc := 6) cx dX6_takeLine_6 1 rfl ?_
    refine r_iload_n (pc := 7) cx dX6_takeLine_7 2 rfl ?_
    refine r_bipush (pc := 8) cx dX6_takeLine_8 bp_7 ?_
    refine r_isub (pc := 10) cx dX6_takeLine_10 ?_
    refine r_aload_n (pc := 11) cx dX6_takeLine_11 0 rfl ?_
    refine r_get (pc := 12) cx cf_X6 0 6 rfl (by decide) rfl wd_258 dX6_takeLine_12 ?_
    refine r_iconst (pc := 15) cx dX6_takeLine_15 ic_0 ?_
    refine r_iald (pc := 16) cx 4 rfl (by decide) dX6_takeLine_16 ?_
    refine r_aload_n (pc := 17) cx dX6_takeLine_17 0 rfl ?_
    refine r_get (pc := 18) cx cf_X6 0 6 rfl (by decide) rfl wd_258 dX6_takeLine_18 ?_
    refine r_iconst (pc := 21) cx dX6_takeLine_21 ic_1 ?_
    refine r_iald (pc := 22) cx 4 rfl (by decide) dX6_takeLine_22 ?_
    refine r_aload_n (pc := 23) cx dX6_takeLine_23 0 rfl ?_
    refine r_get (pc := 24) cx cf_X6 0 6 rfl (by decide) rfl wd_258 dX6_takeLine_24 ?_
    refine r_iconst (pc := 27) cx dX6_takeLine_27 ic_2 ?_
    refine r_iald (pc := 28) cx 4 rfl (by decide) dX6_takeLine_28 ?_
    obtain ⟨v23, hc24, hf⟩ := bd_of hf
    refine r_Vv (pc := 29) (ws' := [((q 0), ob 5 [.ref (q 1), .int (Rd_filled v), .int (Rd_fault v), .int (Rd_faultPlace v), .ref (q 2), .ref (q 3), .ref (q 4), .ref (q 5), .int (Rd_limit v), .int (Rd_position v), .int (Rd_token v), .int (Rd_value v), .int (Rd_place v), .int (Rd_toldRules v), .int (Rd_toldData v)]), ((q 1), aB K 700 (Rd_tape v)), ((q 2), aI K 25 (Rd_words v)), ((q 3), aI K 75 (Rd_sorts v)), ((q 4), aI K 3 (Rd_parts v)), ((q 5), aI K 64 (Rd_wantedPlaces v)), ((g 0), ob 3 [.ref (g 1), .ref (g 2), .ref (g 3), .ref (g 4), .ref (g 5), .ref (g 6), .ref (g 7), .ref (g 8), .int (Pg_nameCount v23), .int (Pg_size v23), .int (Pg_lines v23)]), ((g 1), aI K 64 (Pg_code v23)), ((g 2), aI K 64 (Pg_first v23)), ((g 3), aI K 64 (Pg_second v23)), ((g 4), aI K 64 (Pg_third v23)), ((g 5), aI K 8 (Pg_rules v23)), ((g 6), aI K 32 (Pg_data v23)), ((g 7), aI K 140 (Pg_names v23)), ((g 8), aI K 140 (Pg_namedPlaces v23))]) (nn := 9) cx [.int (a2 - (7 : Int32)), .int ((Rd_parts v) (0 : Int32).toNatClampNeg), .int ((Rd_parts v) (1 : Int32).toNatClampNeg), .int ((Rd_parts v) (2 : Int32).toNatClampNeg)] [] (m_Pg_append l D K g pr (a2 - (7 : Int32)) ((Rd_parts v) (0 : Int32).toNatClampNeg) ((Rd_parts v) (1 : Int32).toNatClampNeg) ((Rd_parts v) (2 : Int32).toNatClampNeg) hc24) yv_X4_append wd_681 ⟨rfl, rfl⟩ (by decide) (fr_k (fr_k (fr_k (fr_k (fr_k (fr_k (fr_s (j := 0) rfl rfl rfl (fr_s (j := 1) rfl rfl rfl (fr_s (j := 2) rfl rfl rfl (fr_s (j := 3) rfl rfl rfl (fr_s (j := 4) rfl rfl rfl (fr_s (j := 5) rfl rfl rfl (fr_s (j := 6) rfl rfl rfl (fr_s (j := 7) rfl rfl rfl (fr_s (j := 8) rfl rfl rfl (fr_n)))))))))))))))) rfl (by decide) 6 rfl rfl rfl (Nat.le_of_ble_eq_true rfl) dX6_takeLine_29 ?_
    refine r_goto (pc := 32) (tgt := 138) cx dX6_takeLine_32 (by decide) ?_
    cases hf
    exact r_vret (pc := 138) cx rfl dX6_takeLine_138
theorem yv_X6_takeLine : YV yX6_takeLine cX6_takeLine 4 (none) 2 := ⟨⟨by decide +kernel, by decide +kernel, by decide +kernel⟩, wd_680, wd_90, wd_679, wd_12⟩
