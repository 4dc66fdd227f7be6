def f_Rd_readLine_L109 (pr : T_Pg) (y1 : Int32) (k109_154 : T_Rd → Option (T_Rd × T_Pg)) : Nat → Int32 → T_Rd → Option (T_Rd × T_Pg)
  | 0, _, _ => none
  | n109 + 1, x8, v9 =>
    (if (3 : Int32) ≤ x8 then (k109_154 v9) else (if (Rd_fault v9) = (0 : Int32) then (bd (f_Rd_sortOf v9 y1 x8) fun (r13 : Int32) => (if r13 = (32 : Int32) then (nm (x8 + (1 : Int32)) fun (x16 : Int32) => (f_Rd_readLine_L109 pr y1 k109_154 n109 x16 v9)) else (bd (f_Rd_advance v9) fun (v17 : T_Rd) => (bd (f_Rd_readPart v17 pr r13 x8) fun (v19 : T_Rd) => (nm (x8 + (1 : Int32)) fun (x21 : Int32) => (f_Rd_readLine_L109 pr y1 k109_154 n109 x21 v19)))))) else (k109_154 v9)))
def f_Rd_readLine (v : T_Rd) (pr : T_Pg) : Option (T_Rd × T_Pg) :=
  (nm (fun (y1 : Int32) => ((nm (fun (v3 : T_Rd) => ((nm (upd (Rd_parts v3) (0 : Int32).toNatClampNeg (0 : Int32)) fun (f5 : Nat → Int32) => (nm (upd f5 (1 : Int32).toNatClampNeg (0 : Int32)) fun (f6 : Nat → Int32) => (nm (upd f6 (2 : Int32).toNatClampNeg (0 : Int32)) fun (f7 : Nat → Int32) => (f_Rd_readLine_L109 pr y1 (fun (v10 : T_Rd) => (nm (fun (v22 : T_Rd) => ((if (Rd_fault v22) = (0 : Int32) then (nm ((Pg_lines pr) + (1 : Int32)) fun (x25 : Int32) => (bd2 (f_Rd_takeLine v22 ((Pg_code pr), (Pg_first pr), (Pg_second pr), (Pg_third pr), (Pg_rules pr), (Pg_data pr), (Pg_names pr), (Pg_namedPlaces pr), (Pg_nameCount pr), (Pg_size pr), x25) y1) fun (v26 : T_Rd) (v27 : T_Pg) => (some (v26, v27)))) else (some (v22, pr))) : Option (T_Rd × T_Pg))) fun J23 => (if (Rd_fault v10) = (0 : Int32) then (bd (f_Rd_advance v10) fun (v30 : T_Rd) => (if (Rd_token v30) = (3 : Int32) then (J23 v30) else (bd (f_Rd_fail v30 (1 : Int32) (Rd_place v30)) fun (v33 : T_Rd) => (J23 v33)))) else (J23 v10)))) LF (0 : Int32) ((Rd_tape v3), (Rd_filled v3), (Rd_fault v3), (Rd_faultPlace v3), (Rd_words v3), (Rd_sorts v3), f7, (Rd_wantedPlaces v3), (Rd_limit v3), (Rd_position v3), (Rd_token v3), (Rd_value v3), (Rd_place v3), (Rd_toldRules v3), (Rd_toldData v3)))))) : Option (T_Rd × T_Pg))) fun J4 => (if y1 = (-1 : Int32) then (bd (f_Rd_fail v (1 : Int32) (Rd_place v)) fun (v46 : T_Rd) => (J4 v46)) else (if y1 < (7 : Int32) then (if (((Rd_toldRules v) >>> (y1 &&& 31)) &&& (1 : Int32)) = (1 : Int32) then (bd (f_Rd_fail v (3 : Int32) (Rd_place v)) fun (v38 : T_Rd) => (J4 v38)) else (J4 v)) else (if (Pg_size pr) < (40 : Int32) then (if (((Rd_toldRules v) >>> (y1 &&& 31)) &&& (1 : Int32)) = (1 : Int32) then (bd (f_Rd_fail v (3 : Int32) (Rd_place v)) fun (v42 : T_Rd) => (J4 v42)) else (J4 v)) else (bd (f_Rd_fail v (2 : Int32) (Rd_place v)) fun (v44 : T_Rd) => (J4 v44)))))) : Option (T_Rd × T_Pg))) fun J2 => (if (Rd_token v) = (1 : Int32) then (bd (f_Rd_wordNumber v (Rd_value v)) fun (r49 : Int32) => (J2 r49)) else (J2 (-1 : Int32))))
abbrev rm_Rd_readLine : Room := { frames := 3, cells := 0, slots := 0, locals := 67 }
set_option maxRecDepth 100000 in
set_option maxHeartbeats 4000000 in
theorem m_Rd_readLine (l : Launch) (D : va_G) (K : Nat → ClassId) (q : Nat → Nat) (v : T_Rd) (g : Nat → Nat) (pr : T_Pg) {o_v : T_Rd} {o_pr : T_Pg} (hf : f_Rd_readLine v pr = some (o_v, o_pr)) : MV l yX6_readLine cX6_readLine 5 (none) rm_Rd_readLine D K [.ref (q 0), .ref (g 0)] (cl_Rd K q v ++ (cl_Pg K g pr)) (cl_Rd K q o_v ++ (cl_Pg K g o_pr)) := by
  refine MV_of (loc0 := [(0, .ref (q 0)), (1, .ref (g 0))]) (by decide +kernel) rfl (Nat.le_of_ble_eq_true rfl) ?_
  intro p e s m args below meth c A cx
  unfold f_Rd_readLine at hf
  refine r_ws (ws' := [((q 0), ob 5 [.ref (q 1), .int (Rd_filled v), .int (Rd_fault v), .int (Rd_faultPlace v), .ref (q 2), .ref (q 3), .ref (q 4), .ref (q 5), .int (Rd_limit v), .int (Rd_position v), .int (Rd_token v), .int (Rd_value v), .int (Rd_place v), .int (Rd_toldRules v), .int (Rd_toldData v)]), ((q 1), aB K 700 (Rd_tape v)), ((q 2), aI K 25 (Rd_words v)), ((q 3), aI K 75 (Rd_sorts v)), ((q 4), aI K 3 (Rd_parts v)), ((q 5), aI K 64 (Rd_wantedPlaces v)), ((g 0), ob 3 [.ref (g 1), .ref (g 2), .ref (g 3), .ref (g 4), .ref (g 5), .ref (g 6), .ref (g 7), .ref (g 8), .int (Pg_nameCount pr), .int (Pg_size pr), .int (Pg_lines pr)]), ((g 1), aI K 64 (Pg_code pr)), ((g 2), aI K 64 (Pg_first pr)), ((g 3), aI K 64 (Pg_second pr)), ((g 4), aI K 64 (Pg_third pr)), ((g 5), aI K 8 (Pg_rules pr)), ((g 6), aI K 32 (Pg_data pr)), ((g 7), aI K 140 (Pg_names pr)), ((g 8), aI K 140 (Pg_namedPlaces pr))]) rfl ?_
  refine r_aload_n (pc := 0) cx dX6_readLine_0 0 rfl ?_
  refine r_get (pc := 1) cx cf_X6 0 10 rfl (by decide) rfl wd_262 dX6_readLine_1 ?_
  refine r_iconst (pc := 4) cx dX6_readLine_4 ic_1 ?_
  obtain ⟨J2, eJ2, hf⟩ := nm_of hf
  have hJ2 : ∀ (y1 : Int32), J2 y1 = some (o_v, o_pr) → WW p l e rm_Rd_readLine s m args below meth c D A 5 0 0 (MQ below (QV D K A (cl_Rd K q o_v ++ (cl_Pg K g o_pr))) args s 0 0 A) ([((q 0), ob 5 [.ref (q 1), .int (Rd_filled v), .int (Rd_fault v), .int (Rd_faultPlace v), .ref (q 2), .ref (q 3), .ref (q 4), .ref (q 5), .int (Rd_limit v), .int (Rd_position v), .int (Rd_token v), .int (Rd_value v), .int (Rd_place v), .int (Rd_toldRules v), .int (Rd_toldData v)]), ((q 1), aB K 700 (Rd_tape v)), ((q 2), aI K 25 (Rd_words v)), ((q 3), aI K 75 (Rd_sorts v)), ((q 4), aI K 3 (Rd_parts v)), ((q 5), aI K 64 (Rd_wantedPlaces v)), ((g 0), ob 3 [.ref (g 1), .ref (g 2), .ref (g 3), .ref (g 4), .ref (g 5), .ref (g 6), .ref (g 7), .ref (g 8), .int (Pg_nameCount pr), .int (Pg_size pr), .int (Pg_lines pr)]), ((g 1), aI K 64 (Pg_code pr)), ((g 2), aI K 64 (Pg_first pr)), ((g 3), aI K 64 (Pg_second pr)), ((g 4), aI K 64 (Pg_third pr)), ((g 5), aI K 8 (Pg_rules pr)), ((g 6), aI K 32 (Pg_data pr)), ((g 7), aI K 140 (Pg_names pr)), ((g 8), aI K 140 (Pg_namedPlaces pr))]) ([(0, .ref (q 0)), (1, .ref (g 0))]) ([.int y1]) 20 := by
    intro y1 hf
    rw [eJ2] at hf
    refine r_istore_n (pc := 20) (loc' := [(2, .int y1), (0, .ref (q 0)), (1, .ref (g 0))]) cx dX6_readLine_20 rfl (by decide) rfl ?_
    refine r_iload_n (pc := 21) cx dX6_readLine_21 0 rfl ?_
    refine r_iconst (pc := 22) cx dX6_readLine_22 ic_m1 ?_
    obtain ⟨J4, eJ4, hf⟩ := nm_of hf
    have hJ4 : ∀ (v3 : T_Rd), J4 v3 = some (o_v, o_pr) → WW p l e rm_Rd_readLine s m args below meth c D A 5 0 0 (MQ below (QV D K A (cl_Rd K q o_v ++ (cl_Pg K g o_pr))) args s 0 0 A) ([((q 0), ob 5 [.ref (q 1), .int (Rd_filled v3), .int (Rd_fault v3), .int (Rd_faultPlace v3), .ref (q 2), .ref (q 3), .ref (q 4), .ref (q 5), .int (Rd_limit v3), .int (Rd_position v3), .int (Rd_token v3), .int (Rd_value v3), .int (Rd_place v3), .int (Rd_toldRules v3), .int (Rd_toldData v3)]), ((q 1), aB K 700 (Rd_tape v3)), ((q 2), aI K 25 (Rd_words v3)), ((q 3), aI K 75 (Rd_sorts v3)), ((q 4), aI K 3 (Rd_parts v3)), ((q 5), aI K 64 (Rd_wantedPlaces v3)), ((g 0), ob 3 [.ref (g 1), .ref (g 2), .ref (g 3), .ref (g 4), .ref (g 5), .ref (g 6), .ref (g 7), .ref (g 8), .int (Pg_nameCount pr), .int (Pg_size pr), .int (Pg_lines pr)]), ((g 1), aI K 64 (Pg_code pr)), ((g 2), aI K 64 (Pg_first pr)), ((g 3), aI K 64 (Pg_second pr)), ((g 4), aI K 64 (Pg_third pr)), ((g 5), aI K 8 (Pg_rules pr)), ((g 6), aI K 32 (Pg_data pr)), ((g 7), aI K 140 (Pg_names pr)), ((g 8), aI K 140 (Pg_namedPlaces pr))]) ([(0, .ref (q 0)), (1, .ref (g 0)), (2, .int y1)]) ([]) 86 := by
      intro v3 hf
      rw [eJ4] at hf
      refine r_aload_n (pc := 86) cx dX6_readLine_86 0 rfl ?_
      refine r_get (pc := 87) cx cf_X6 0 6 rfl (by decide) rfl wd_258 dX6_readLine_87 ?_
      refine r_iconst (pc := 90) cx dX6_readLine_90 ic_0 ?_
      refine r_iconst (pc := 91) cx dX6_readLine_91 ic_0 ?_
      obtain ⟨f5, ef5, hf⟩ := nm_of hf
      refine r_iast (pc := 92) (ws' := [((q 0), ob 5 [.ref (q 1), .int (Rd_filled v3), .int (Rd_fault v3), .int (Rd_faultPlace v3), .ref (q 2), .ref (q 3), .ref (q 4), .ref (q 5), .int (Rd_limit v3), .int (Rd_position v3), .int (Rd_token v3), .int (Rd_value v3), .int (Rd_place v3), .int (Rd_toldRules v3), .int (Rd_toldData v3)]), ((q 1), aB K 700 (Rd_tape v3)), ((q 2), aI K 25 (Rd_words v3)), ((q 3), aI K 75 (Rd_sorts v3)), ((q 4), aI K 3 f5), ((q 5), aI K 64 (Rd_wantedPlaces v3)), ((g 0), ob 3 [.ref (g 1), .ref (g 2), .ref (g 3), .ref (g 4), .ref (g 5), .ref (g 6), .ref (g 7), .ref (g 8), .int (Pg_nameCount pr), .int (Pg_size pr), .int (Pg_lines pr)]), ((g 1), aI K 64 (Pg_code pr)), ((g 2), aI K 64 (Pg_first pr)), ((g 3), aI K 64 (Pg_second pr)), ((g 4), aI K 64 (Pg_third pr)), ((g 5), aI K 8 (Pg_rules pr)), ((g 6), aI K 32 (Pg_data pr)), ((g 7), aI K 140 (Pg_names pr)), ((g 8), aI K 140 (Pg_namedPlaces pr))]) cx 4 rfl (by decide) dX6_readLine_92 ef5 rfl ?_
      refine r_aload_n (pc := 93) cx dX6_readLine_93 0 rfl ?_
      refine r_get (pc := 94) cx cf_X6 0 6 rfl (by decide) rfl wd_258 dX6_readLine_94 ?_
      refine r_iconst (pc := 97) cx dX6_readLine_97 ic_1 ?_
      refine r_iconst (pc := 98) cx dX6_readLine_98 ic_0 ?_
      obtain ⟨f6, ef6, hf⟩ := nm_of hf
      refine r_iast (pc := 99) (ws' := [((q 0), ob 5 [.ref (q 1), .int (Rd_filled v3), .int (Rd_fault v3), .int (Rd_faultPlace v3), .ref (q 2), .ref (q 3), .ref (q 4), .ref (q 5), .int (Rd_limit v3), .int (Rd_position v3), .int (Rd_token v3), .int (Rd_value v3), .int (Rd_place v3), .int (Rd_toldRules v3), .int (Rd_toldData v3)]), ((q 1), aB K 700 (Rd_tape v3)), ((q 2), aI K 25 (Rd_words v3)), ((q 3), aI K 75 (Rd_sorts v3)), ((q 4), aI K 3 f6), ((q 5), aI K 64 (Rd_wantedPlaces v3)), ((g 0), ob 3 [.ref (g 1), .ref (g 2), .ref (g 3), .ref (g 4), .ref (g 5), .ref (g 6), .ref (g 7), .ref (g 8), .int (Pg_nameCount pr), .int (Pg_size pr), .int (Pg_lines pr)]), ((g 1), aI K 64 (Pg_code pr)), ((g 2), aI K 64 (Pg_first pr)), ((g 3), aI K 64 (Pg_second pr)), ((g 4), aI K 64 (Pg_third pr)), ((g 5), aI K 8 (Pg_rules pr)), ((g 6), aI K 32 (Pg_data pr)), ((g 7), aI K 140 (Pg_names pr)), ((g 8), aI K 140 (Pg_namedPlaces pr))]) cx 4 rfl (by decide) dX6_readLine_99 ef6 rfl ?_
      refine r_aload_n (pc := 100) cx dX6_readLine_100 0 rfl ?_
      refine r_get (pc := 101) cx cf_X6 0 6 rfl (by decide) rfl wd_258 dX6_readLine_101 ?_
      refine r_iconst (pc := 104) cx dX6_readLine_104 ic_2 ?_
      refine r_iconst (pc := 105) cx dX6_readLine_105 ic_0 ?_
      obtain ⟨f7, ef7, hf⟩ := nm_of hf
      refine r_iast (pc := 106) (ws' := [((q 0), ob 5 [.ref (q 1), .int (Rd_filled v3), .int (Rd_fault v3), .int (Rd_faultPlace v3), .ref (q 2), .ref (q 3), .ref (q 4), .ref (q 5), .int (Rd_limit v3), .int (Rd_position v3), .int (Rd_token v3), .int (Rd_value v3), .int (Rd_place v3), .int (Rd_toldRules v3), .int (Rd_toldData v3)]), ((q 1), aB K 700 (Rd_tape v3)), ((q 2), aI K 25 (Rd_words v3)), ((q 3), aI K 75 (Rd_sorts v3)), ((q 4), aI K 3 f7), ((q 5), aI K 64 (Rd_wantedPlaces v3)), ((g 0), ob 3 [.ref (g 1), .ref (g 2), .ref (g 3), .ref (g 4), .ref (g 5), .ref (g 6), .ref (g 7), .ref (g 8), .int (Pg_nameCount pr), .int (Pg_size pr), .int (Pg_lines pr)]), ((g 1), aI K 64 (Pg_code pr)), ((g 2), aI K 64 (Pg_first pr)), ((g 3), aI K 64 (Pg_second pr)), ((g 4), aI K 64 (Pg_third pr)), ((g 5), aI K 8 (Pg_rules pr)), ((g 6), aI K 32 (Pg_data pr)), ((g 7), aI K 140 (Pg_names pr)), ((g 8), aI K 140 (Pg_namedPlaces pr))]) cx 4 rfl (by decide) dX6_readLine_106 ef7 rfl ?_
      refine r_iconst (pc := 107) cx dX6_readLine_107 ic_0 ?_
      refine r_istore_n (pc := 108) (loc' := [(3, .int (0 : Int32)), (0, .ref (q 0)), (1, .ref (g 0)), (2, .int y1)]) cx dX6_readLine_108 rfl (by decide) rfl ?_
      have hL109 : ∀ (k109_154 : T_Rd → Option (T_Rd × T_Pg)), (∀ (v10 : T_Rd), k109_154 v10 = some (o_v, o_pr) → WW p l e rm_Rd_readLine s m args below meth c D A 5 0 0 (MQ below (QV D K A (cl_Rd K q o_v ++ (cl_Pg K g o_pr))) args s 0 0 A) ([((q 0), ob 5 [.ref (q 1), .int (Rd_filled v10), .int (Rd_fault v10), .int (Rd_faultPlace v10), .ref (q 2), .ref (q 3), .ref (q 4), .ref (q 5), .int (Rd_limit v10), .int (Rd_position v10), .int (Rd_token v10), .int (Rd_value v10), .int (Rd_place v10), .int (Rd_toldRules v10), .int (Rd_toldData v10)]), ((q 1), aB K 700 (Rd_tape v10)), ((q 2), aI K 25 (Rd_words v10)), ((q 3), aI K 75 (Rd_sorts v10)), ((q 4), aI K 3 (Rd_parts v10)), ((q 5), aI K 64 (Rd_wantedPlaces v10)), ((g 0), ob 3 [.ref (g 1), .ref (g 2), .ref (g 3), .ref (g 4), .ref (g 5), .ref (g 6), .ref (g 7), .ref (g 8), .int (Pg_nameCount pr), .int (Pg_size pr), .int (Pg_lines pr)]), ((g 1), aI K 64 (Pg_code pr)), ((g 2), aI K 64 (Pg_first pr)), ((g 3), aI K 64 (Pg_second pr)), ((g 4), aI K 64 (Pg_third pr)), ((g 5), aI K 8 (Pg_rules pr)), ((g 6), aI K 32 (Pg_data pr)), ((g 7), aI K 140 (Pg_names pr)), ((g 8), aI K 140 (Pg_namedPlaces pr))]) ([(0, .ref (q 0)), (1, .ref (g 0)), (2, .int y1)]) ([]) 154) → ∀ (n109 : Nat) (x8 : Int32) (v9 : T_Rd), f_Rd_readLine_L109 pr y1 k109_154 n109 x8 v9 = some (o_v, o_pr) → WW p l e rm_Rd_readLine s m args below meth c D A 5 0 0 (MQ below (QV D K A (cl_Rd K q o_v ++ (cl_Pg K g o_pr))) args s 0 0 A) ([((q 0), ob 5 [.ref (q 1), .int (Rd_filled v9), .int (Rd_fault v9), .int (Rd_faultPlace v9), .ref (q 2), .ref (q 3), .ref (q 4), .ref (q 5), .int (Rd_limit v9), .int (Rd_position v9), .int (Rd_token v9), .int (Rd_value v9), .int (Rd_place v9), .int (Rd_toldRules v9), .int (Rd_toldData v9)]), ((q 1), aB K 700 (Rd_tape v9)), ((q 2), aI K 25 (Rd_words v9)), ((q 3), aI K 75 (Rd_sorts v9)), ((q 4), aI K 3 (Rd_parts v9)), ((q 5), aI K 64 (Rd_wantedPlaces v9)), ((g 0), ob 3 [.ref (g 1), .ref (g 2), .ref (g 3), .ref (g 4), .ref (g 5), .ref (g 6), .ref (g 7), .ref (g 8), .int (Pg_nameCount pr), .int (Pg_size pr), .int (Pg_lines pr)]), ((g 1), aI K 64 (Pg_code pr)), ((g 2), aI K 64 (Pg_first pr)), ((g 3), aI K 64 (Pg_second pr)), ((g 4), aI K 64 (Pg_third pr)), ((g 5), aI K 8 (Pg_rules pr)), ((g 6), aI K 32 (Pg_data pr)), ((g 7), aI K 140 (Pg_names pr)), ((g 8), aI K 140 (Pg_namedPlaces pr))]) ([(0, .ref (q 0)), (1, .ref (g 0)), (2, .int y1), (3, .int x8)]) ([]) 109 := by
        intro k109_154 hk109_154 n109
        induction n109 with
        | zero => intro x8 v9 hf; exact (nomatch (show (none : Option (T_Rd × T_Pg)) = some _ from hf))
        | succ n109 ih109 =>
          intro x8 v9 hf
          rw [f_Rd_readLine_L109] at hf
          refine r_iload_n (pc := 109) cx dX6_readLine_109 3 rfl ?_
          refine r_iconst (pc := 110) cx dX6_readLine_110 ic_3 ?_
          refine r_icmp_ge (pc := 111) (tgt := 154) cx dX6_readLine_111 (by decide) (fun h11 => ?_) (fun h11 => ?_)
          · have hf := ifp h11 hf
            refine r_loc (loc' := [(0, .ref (q 0)), (1, .ref (g 0)), (2, .int y1)]) [0, 1, 2] rfl ?_
            exact hk109_154 _ hf
          · have hf := ifn h11 hf
            refine r_aload_n (pc := 114) cx dX6_readLine_114 0 rfl ?_
            refine r_get (pc := 115) cx cf_X6 0 2 rfl (by decide) rfl wd_253 dX6_readLine_115 ?_
            refine r_if_ne (pc := 118) (tgt := 154) cx dX6_readLine_118 (by decide) (fun h12 => ?_) (fun h12 => ?_)
            · have hf := ifn h12 hf
              refine r_loc (loc' := [(0, .ref (q 0)), (1, .ref (g 0)), (2, .int y1)]) [0, 1, 2] rfl ?_
              exact hk109_154 _ hf
            · have hf := ifp h12 hf
              refine r_aload_n (pc := 121) cx dX6_readLine_121 0 rfl ?_
              refine r_iload_n (pc := 122) cx dX6_readLine_122 2 rfl ?_
              refine r_iload_n (pc := 123) cx dX6_readLine_123 3 rfl ?_
              obtain ⟨r13, hc14, hf⟩ := bd_of hf
              refine r_Vi (pc := 124) (ws' := [((q 0), ob 5 [.ref (q 1), .int (Rd_filled v9), .int (Rd_fault v9), .int (Rd_faultPlace v9), .ref (q 2), .ref (q 3), .ref (q 4), .ref (q 5), .int (Rd_limit v9), .int (Rd_position v9), .int (Rd_token v9), .int (Rd_value v9), .int (Rd_place v9), .int (Rd_toldRules v9), .int (Rd_toldData v9)]), ((q 1), aB K 700 (Rd_tape v9)), ((q 2), aI K 25 (Rd_words v9)), ((q 3), aI K 75 (Rd_sorts v9)), ((q 4), aI K 3 (Rd_parts v9)), ((q 5), aI K 64 (Rd_wantedPlaces v9)), ((g 0), ob 3 [.ref (g 1), .ref (g 2), .ref (g 3), .ref (g 4), .ref (g 5), .ref (g 6), .ref (g 7), .ref (g 8), .int (Pg_nameCount pr), .int (Pg_size pr), .int (Pg_lines pr)]), ((g 1), aI K 64 (Pg_code pr)), ((g 2), aI K 64 (Pg_first pr)), ((g 3), aI K 64 (Pg_second pr)), ((g 4), aI K 64 (Pg_third pr)), ((g 5), aI K 8 (Pg_rules pr)), ((g 6), aI K 32 (Pg_data pr)), ((g 7), aI K 140 (Pg_names pr)), ((g 8), aI K 140 (Pg_namedPlaces pr))]) (nn := 6) cx [.int y1, .int x8] [] (m_Rd_sortOf l D K q v9 y1 x8 hc14) yv_X6_sortOf wd_653 ⟨rfl, rfl⟩ (by decide) (fr_s (j := 0) rfl rfl rfl (fr_s (j := 1) rfl rfl rfl (fr_s (j := 2) rfl rfl rfl (fr_s (j := 3) rfl rfl rfl (fr_s (j := 4) rfl rfl rfl (fr_s (j := 5) rfl rfl rfl (fr_k (fr_k (fr_k (fr_k (fr_k (fr_k (fr_k (fr_k (fr_k (fr_n)))))))))))))))) rfl (by decide) 0 rfl rfl rfl (Nat.le_of_ble_eq_true rfl) dX6_readLine_124 ?_
              refine r_istore (pc := 127) (loc' := [(4, .int r13), (0, .ref (q 0)), (1, .ref (g 0)), (2, .int y1), (3, .int x8)]) cx dX6_readLine_127 (by decide) rfl ?_
              refine r_iload (pc := 129) cx dX6_readLine_129 0 rfl ?_
              refine r_bipush (pc := 131) cx dX6_readLine_131 bp_32 ?_
              refine r_icmp_eq (pc := 133) (tgt := 148) cx dX6_readLine_133 (by decide) (fun h15 => ?_) (fun h15 => ?_)
              · have hf := ifp h15 hf
                obtain ⟨x16, ex16, hf⟩ := nm_of hf
                refine r_iinc (pc := 148) (loc' := [(3, .int x16), (4, .int r13), (0, .ref (q 0)), (1, .ref (g 0)), (2, .int y1)]) (v := x16) cx dX6_readLine_148 4 rfl ((congrArg (fun z => x8 + z) ic_1).trans ex16.symm) (by decide) rfl ?_
                refine r_goto (pc := 151) (tgt := 109) cx dX6_readLine_151 (by decide) ?_
                refine r_loc (loc' := [(0, .ref (q 0)), (1, .ref (g 0)), (2, .int y1), (3, .int x16)]) [2, 3, 4, 0] rfl ?_
                exact ih109 _ _ hf
              · have hf := ifn h15 hf
                refine r_aload_n (pc := 136) cx dX6_readLine_136 1 rfl ?_
                obtain ⟨v17, hc18, hf⟩ := bd_of hf
                refine r_Vv (pc := 137) (ws' := [((q 0), ob 5 [.ref (q 1), .int (Rd_filled v17), .int (Rd_fault v17), .int (Rd_faultPlace v17), .ref (q 2), .ref (q 3), .ref (q 4), .ref (q 5), .int (Rd_limit v17), .int (Rd_position v17), .int (Rd_token v17), .int (Rd_value v17), .int (Rd_place v17), .int (Rd_toldRules v17), .int (Rd_toldData v17)]), ((q 1), aB K 700 (Rd_tape v17)), ((q 2), aI K 25 (Rd_words v17)), ((q 3), aI K 75 (Rd_sorts v17)), ((q 4), aI K 3 (Rd_parts v17)), ((q 5), aI K 64 (Rd_wantedPlaces v17)), ((g 0), ob 3 [.ref (g 1), .ref (g 2), .ref (g 3), .ref (g 4), .ref (g 5), .ref (g 6), .ref (g 7), .ref (g 8), .int (Pg_nameCount pr), .int (Pg_size pr), .int (Pg_lines pr)]), ((g 1), aI K 64 (Pg_code pr)), ((g 2), aI K 64 (Pg_first pr)), ((g 3), aI K 64 (Pg_second pr)), ((g 4), aI K 64 (Pg_third pr)), ((g 5), aI K 8 (Pg_rules pr)), ((g 6), aI K 32 (Pg_data pr)), ((g 7), aI K 140 (Pg_names pr)), ((g 8), aI K 140 (Pg_namedPlaces pr))]) (nn := 6) cx [] [] (m_Rd_advance l D K q v9 hc18) yv_X6_advance wd_621 ⟨rfl, rfl⟩ (by decide) (fr_s (j := 0) rfl rfl rfl (fr_s (j := 1) rfl rfl rfl (fr_s (j := 2) rfl rfl rfl (fr_s (j := 3) rfl rfl rfl (fr_s (j := 4) rfl rfl rfl (fr_s (j := 5) rfl rfl rfl (fr_k (fr_k (fr_k (fr_k (fr_k (fr_k (fr_k (fr_k (fr_k (fr_n)))))))))))))))) rfl (by decide) 0 rfl rfl rfl (Nat.le_of_ble_eq_true rfl) dX6_readLine_137 ?_
                refine r_aload_n (pc := 140) cx dX6_readLine_140 1 rfl ?_
                refine r_aload_n (pc := 141) cx dX6_readLine_141 2 rfl ?_
                refine r_iload (pc := 142) cx dX6_readLine_142 0 rfl ?_
                refine r_iload_n (pc := 144) cx dX6_readLine_144 4 rfl ?_
                obtain ⟨v19, hc20, hf⟩ := bd_of hf
                refine r_Vv (pc := 145) (ws' := [((q 0), ob 5 [.ref (q 1), .int (Rd_filled v19), .int (Rd_fault v19), .int (Rd_faultPlace v19), .ref (q 2), .ref (q 3), .ref (q 4), .ref (q 5), .int (Rd_limit v19), .int (Rd_position v19), .int (Rd_token v19), .int (Rd_value v19), .int (Rd_place v19), .int (Rd_toldRules v19), .int (Rd_toldData v19)]), ((q 1), aB K 700 (Rd_tape v19)), ((q 2), aI K 25 (Rd_words v19)), ((q 3), aI K 75 (Rd_sorts v19)), ((q 4), aI K 3 (Rd_parts v19)), ((q 5), aI K 64 (Rd_wantedPlaces v19)), ((g 0), ob 3 [.ref (g 1), .ref (g 2), .ref (g 3), .ref (g 4), .ref (g 5), .ref (g 6), .ref (g 7), .ref (g 8), .int (Pg_nameCount pr), .int (Pg_size pr), .int (Pg_lines pr)]), ((g 1), aI K 64 (Pg_code pr)), ((g 2), aI K 64 (Pg_first pr)), ((g 3), aI K 64 (Pg_second pr)), ((g 4), aI K 64 (Pg_third pr)), ((g 5), aI K 8 (Pg_rules pr)), ((g 6), aI K 32 (Pg_data pr)), ((g 7), aI K 140 (Pg_names pr)), ((g 8), aI K 140 (Pg_namedPlaces pr))]) (nn := 15) cx [.ref (g 0), .int r13, .int x8] [] (m_Rd_readPart l D K q v17 g pr r13 x8 hc20) yv_X6_readPart wd_657 ⟨rfl, rfl⟩ (by decide) (fr_s (j := 0) rfl rfl rfl (fr_s (j := 1) rfl rfl rfl (fr_s (j := 2) rfl rfl rfl (fr_s (j := 3) rfl rfl rfl (fr_s (j := 4) rfl rfl rfl (fr_s (j := 5) rfl rfl rfl (fr_s (j := 6) rfl rfl rfl (fr_s (j := 7) rfl rfl rfl (fr_s (j := 8) rfl rfl rfl (fr_s (j := 9) rfl rfl rfl (fr_s (j := 10) rfl rfl rfl (fr_s (j := 11) rfl rfl rfl (fr_s (j := 12) rfl rfl rfl (fr_s (j := 13) rfl rfl rfl (fr_s (j := 14) rfl rfl rfl (fr_n)))))))))))))))) rfl (by decide) 0 rfl rfl rfl (Nat.le_of_ble_eq_true rfl) dX6_readLine_145 ?_
                obtain ⟨x21, ex21, hf⟩ := nm_of hf
                refine r_iinc (pc := 148) (loc' := [(3, .int x21), (4, .int r13), (0, .ref (q 0)), (1, .ref (g 0)), (2, .int y1)]) (v := x21) cx dX6_readLine_148 4 rfl ((congrArg (fun z => x8 + z) ic_1).trans ex21.symm) (by decide) rfl ?_
                refine r_goto (pc := 151) (tgt := 109) cx dX6_readLine_151 (by decide) ?_
                refine r_loc (loc' := [(0, .ref (q 0)), (1, .ref (g 0)), (2, .int y1), (3, .int x21)]) [2, 3, 4, 0] rfl ?_
                exact ih109 _ _ hf
      refine r_loc (loc' := [(0, .ref (q 0)), (1, .ref (g 0)), (2, .int y1), (3, .int (0 : Int32))]) [1, 2, 3, 0] rfl ?_
      refine hL109 _ (fun v10 hf => ?_) _ _ _ hf
      refine r_aload_n (pc := 154) cx dX6_readLine_154 0 rfl ?_
      refine r_get (pc := 155) cx cf_X6 0 2 rfl (by decide) rfl wd_253 dX6_readLine_155 ?_
      obtain ⟨J23, eJ23, hf⟩ := nm_of hf
      have hJ23 : ∀ (v22 : T_Rd), J23 v22 = some (o_v, o_pr) → WW p l e rm_Rd_readLine s m args below meth c D A 5 0 0 (MQ below (QV D K A (cl_Rd K q o_v ++ (cl_Pg K g o_pr))) args s 0 0 A) ([((q 0), ob 5 [.ref (q 1), .int (Rd_filled v22), .int (Rd_fault v22), .int (Rd_faultPlace v22), .ref (q 2), .ref (q 3), .ref (q 4), .ref (q 5), .int (Rd_limit v22), .int (Rd_position v22), .int (Rd_token v22), .int (Rd_value v22), .int (Rd_place v22), .int (Rd_toldRules v22), .int (Rd_toldData v22)]), ((q 1), aB K 700 (Rd_tape v22)), ((q 2), aI K 25 (Rd_words v22)), ((q 3), aI K 75 (Rd_sorts v22)), ((q 4), aI K 3 (Rd_parts v22)), ((q 5), aI K 64 (Rd_wantedPlaces v22)), ((g 0), ob 3 [.ref (g 1), .ref (g 2), .ref (g 3), .ref (g 4), .ref (g 5), .ref (g 6), .ref (g 7), .ref (g 8), .int (Pg_nameCount pr), .int (Pg_size pr), .int (Pg_lines pr)]), ((g 1), aI K 64 (Pg_code pr)), ((g 2), aI K 64 (Pg_first pr)), ((g 3), aI K 64 (Pg_second pr)), ((g 4), aI K 64 (Pg_third pr)), ((g 5), aI K 8 (Pg_rules pr)), ((g 6), aI K 32 (Pg_data pr)), ((g 7), aI K 140 (Pg_names pr)), ((g 8), aI K 140 (Pg_namedPlaces pr))]) ([(0, .ref (q 0)), (1, .ref (g 0)), (2, .int y1)]) ([]) 182 := by
        intro v22 hf
        rw [eJ23] at hf
        refine r_aload_n (pc := 182) cx dX6_readLine_182 0 rfl ?_
        refine r_get (pc := 183) cx cf_X6 0 2 rfl (by decide) rfl wd_253 dX6_readLine_183 ?_
        refine r_if_ne (pc := 186) (tgt := 205) cx dX6_readLine_186 (by decide) (fun h24 => ?_) (fun h24 => ?_)
        · have hf := ifn h24 hf
          cases hf
          exact r_vret (pc := 205) cx rfl dX6_readLine_205
        · have hf := ifp h24 hf
          refine r_aload_n (pc := 189) cx dX6_readLine_189 1 rfl ?_
          refine r_dup (pc := 190) cx dX6_readLine_190 rfl ?_
          refine r_get (pc := 191) cx cf_X4 6 10 rfl (by decide) rfl wd_160 dX6_readLine_191 ?_
          refine r_iconst (pc := 194) cx dX6_readLine_194 ic_1 ?_
          refine r_iadd (pc := 195) cx dX6_readLine_195 ?_
          obtain ⟨x25, ex25, hf⟩ := nm_of hf
          refine r_nm ex25 ?_
          refine r_putI (pc := 196) (ws' := [((q 0), ob 5 [.ref (q 1), .int (Rd_filled v22), .int (Rd_fault v22), .int (Rd_faultPlace v22), .ref (q 2), .ref (q 3), .ref (q 4), .ref (q 5), .int (Rd_limit v22), .int (Rd_position v22), .int (Rd_token v22), .int (Rd_value v22), .int (Rd_place v22), .int (Rd_toldRules v22), .int (Rd_toldData v22)]), ((q 1), aB K 700 (Rd_tape v22)), ((q 2), aI K 25 (Rd_words v22)), ((q 3), aI K 75 (Rd_sorts v22)), ((q 4), aI K 3 (Rd_parts v22)), ((q 5), aI K 64 (Rd_wantedPlaces v22)), ((g 0), ob 3 [.ref (g 1), .ref (g 2), .ref (g 3), .ref (g 4), .ref (g 5), .ref (g 6), .ref (g 7), .ref (g 8), .int (Pg_nameCount pr), .int (Pg_size pr), .int x25]), ((g 1), aI K 64 (Pg_code pr)), ((g 2), aI K 64 (Pg_first pr)), ((g 3), aI K 64 (Pg_second pr)), ((g 4), aI K 64 (Pg_third pr)), ((g 5), aI K 8 (Pg_rules pr)), ((g 6), aI K 32 (Pg_data pr)), ((g 7), aI K 140 (Pg_names pr)), ((g 8), aI K 140 (Pg_namedPlaces pr))]) cx cf_X4 6 10 rfl (by decide) (Nat.le_of_ble_eq_true rfl) rfl pfd_I wd_160 dX6_readLine_196 rfl ?_
          refine r_aload_n (pc := 199) cx dX6_readLine_199 0 rfl ?_
          refine r_aload_n (pc := 200) cx dX6_readLine_200 1 rfl ?_
          refine r_iload_n (pc := 201) cx dX6_readLine_201 2 rfl ?_
          obtain ⟨v26, v27, hc28, hf⟩ := bd2_of hf
          refine r_Vv (pc := 202) (ws' := [((q 0), ob 5 [.ref (q 1), .int (Rd_filled v26), .int (Rd_fault v26), .int (Rd_faultPlace v26), .ref (q 2), .ref (q 3), .ref (q 4), .ref (q 5), .int (Rd_limit v26), .int (Rd_position v26), .int (Rd_token v26), .int (Rd_value v26), .int (Rd_place v26), .int (Rd_toldRules v26), .int (Rd_toldData v26)]), ((q 1), aB K 700 (Rd_tape v26)), ((q 2), aI K 25 (Rd_words v26)), ((q 3), aI K 75 (Rd_sorts v26)), ((q 4), aI K 3 (Rd_parts v26)), ((q 5), aI K 64 (Rd_wantedPlaces v26)), ((g 0), ob 3 [.ref (g 1), .ref (g 2), .ref (g 3), .ref (g 4), .ref (g 5), .ref (g 6), .ref (g 7), .ref (g 8), .int (Pg_nameCount v27), .int (Pg_size v27), .int (Pg_lines v27)]), ((g 1), aI K 64 (Pg_code v27)), ((g 2), aI K 64 (Pg_first v27)), ((g 3), aI K 64 (Pg_second v27)), ((g 4), aI K 64 (Pg_third v27)), ((g 5), aI K 8 (Pg_rules v27)), ((g 6), aI K 32 (Pg_data v27)), ((g 7), aI K 140 (Pg_names v27)), ((g 8), aI K 140 (Pg_namedPlaces v27))]) (nn := 15) cx [.ref (g 0), .int y1] [] (m_Rd_takeLine l D K q v22 g ((Pg_code pr), (Pg_first pr), (Pg_second pr), (Pg_third pr), (Pg_rules pr), (Pg_data pr), (Pg_names pr), (Pg_namedPlaces pr), (Pg_nameCount pr), (Pg_size pr), x25) y1 hc28) yv_X6_takeLine wd_677 ⟨rfl, rfl⟩ (by decide) (fr_s (j := 0) rfl rfl rfl (fr_s (j := 1) rfl rfl rfl (fr_s (j := 2) rfl rfl rfl (fr_s (j := 3) rfl rfl rfl (fr_s (j := 4) rfl rfl rfl (fr_s (j := 5) rfl rfl rfl (fr_s (j := 6) rfl rfl rfl (fr_s (j := 7) rfl rfl rfl (fr_s (j := 8) rfl rfl rfl (fr_s (j := 9) rfl rfl rfl (fr_s (j := 10) rfl rfl rfl (fr_s (j := 11) rfl rfl rfl (fr_s (j := 12) rfl rfl rfl (fr_s (j := 13) rfl rfl rfl (fr_s (j := 14) rfl rfl rfl (fr_n)))))))))))))))) rfl (by decide) 0 rfl rfl rfl (Nat.le_of_ble_eq_true rfl) dX6_readLine_202 ?_
          cases hf
          exact r_vret (pc := 205) cx rfl dX6_readLine_205
      refine r_if_ne (pc := 158) (tgt := 182) cx dX6_readLine_158 (by decide) (fun h29 => ?_) (fun h29 => ?_)
      · have hf := ifn h29 hf
        exact hJ23 _ hf
      · have hf := ifp h29 hf
        refine r_aload_n (pc := 161) cx dX6_readLine_161 0 rfl ?_
        obtain ⟨v30, hc31, hf⟩ := bd_of hf
        refine r_Vv (pc := 162) (ws' := [((q 0), ob 5 [.ref (q 1), .int (Rd_filled v30), .int (Rd_fault v30), .int (Rd_faultPlace v30), .ref (q 2), .ref (q 3), .ref (q 4), .ref (q 5), .int (Rd_limit v30), .int (Rd_position v30), .int (Rd_token v30), .int (Rd_value v30), .int (Rd_place v30), .int (Rd_toldRules v30), .int (Rd_toldData v30)]), ((q 1), aB K 700 (Rd_tape v30)), ((q 2), aI K 25 (Rd_words v30)), ((q 3), aI K 75 (Rd_sorts v30)), ((q 4), aI K 3 (Rd_parts v30)), ((q 5), aI K 64 (Rd_wantedPlaces v30)), ((g 0), ob 3 [.ref (g 1), .ref (g 2), .ref (g 3), .ref (g 4), .ref (g 5), .ref (g 6), .ref (g 7), .ref (g 8), .int (Pg_nameCount pr), .int (Pg_size pr), .int (Pg_lines pr)]), ((g 1), aI K 64 (Pg_code pr)), ((g 2), aI K 64 (Pg_first pr)), ((g 3), aI K 64 (Pg_second pr)), ((g 4), aI K 64 (Pg_third pr)), ((g 5), aI K 8 (Pg_rules pr)), ((g 6), aI K 32 (Pg_data pr)), ((g 7), aI K 140 (Pg_names pr)), ((g 8), aI K 140 (Pg_namedPlaces pr))]) (nn := 6) cx [] [] (m_Rd_advance l D K q v10 hc31) yv_X6_advance wd_621 ⟨rfl, rfl⟩ (by decide) (fr_s (j := 0) rfl rfl rfl (fr_s (j := 1) rfl rfl rfl (fr_s (j := 2) rfl rfl rfl (fr_s (j := 3) rfl rfl rfl (fr_s (j := 4) rfl rfl rfl (fr_s (j := 5) rfl rfl rfl (fr_k (fr_k (fr_k (fr_k (fr_k (fr_k (fr_k (fr_k (fr_k (fr_n)))))))))))))))) rfl (by decide) 0 rfl rfl rfl (Nat.le_of_ble_eq_true rfl) dX6_readLine_162 ?_
        refine r_aload_n (pc := 165) cx dX6_readLine_165 0 rfl ?_
        refine r_get (pc := 166) cx cf_X6 0 10 rfl (by decide) rfl wd_262 dX6_readLine_166 ?_
        refine r_iconst (pc := 169) cx dX6_readLine_169 ic_3 ?_
        refine r_icmp_eq (pc := 170) (tgt := 182) cx dX6_readLine_170 (by decide) (fun h32 => ?_) (fun h32 => ?_)
        · have hf := ifp h32 hf
          exact hJ23 _ hf
        · have hf := ifn h32 hf
          refine r_aload_n (pc := 173) cx dX6_readLine_173 0 rfl ?_
          refine r_iconst (pc := 174) cx dX6_readLine_174 ic_1 ?_
          refine r_aload_n (pc := 175) cx dX6_readLine_175 0 rfl ?_
          refine r_get (pc := 176) cx cf_X6 0 12 rfl (by decide) rfl wd_264 dX6_readLine_176 ?_
          obtain ⟨v33, hc34, hf⟩ := bd_of hf
          refine r_Vv (pc := 179) (ws' := [((q 0), ob 5 [.ref (q 1), .int (Rd_filled v33), .int (Rd_fault v33), .int (Rd_faultPlace v33), .ref (q 2), .ref (q 3), .ref (q 4), .ref (q 5), .int (Rd_limit v33), .int (Rd_position v33), .int (Rd_token v33), .int (Rd_value v33), .int (Rd_place v33), .int (Rd_toldRules v33), .int (Rd_toldData v33)]), ((q 1), aB K 700 (Rd_tape v33)), ((q 2), aI K 25 (Rd_words v33)), ((q 3), aI K 75 (Rd_sorts v33)), ((q 4), aI K 3 (Rd_parts v33)), ((q 5), aI K 64 (Rd_wantedPlaces v33)), ((g 0), ob 3 [.ref (g 1), .ref (g 2), .ref (g 3), .ref (g 4), .ref (g 5), .ref (g 6), .ref (g 7), .ref (g 8), .int (Pg_nameCount pr), .int (Pg_size pr), .int (Pg_lines pr)]), ((g 1), aI K 64 (Pg_code pr)), ((g 2), aI K 64 (Pg_first pr)), ((g 3), aI K 64 (Pg_second pr)), ((g 4), aI K 64 (Pg_third pr)), ((g 5), aI K 8 (Pg_rules pr)), ((g 6), aI K 32 (Pg_data pr)), ((g 7), aI K 140 (Pg_names pr)), ((g 8), aI K 140 (Pg_namedPlaces pr))]) (nn := 6) cx [.int (1 : Int32), .int (Rd_place v30)] [] (m_Rd_fail l D K q v30 (1 : Int32) (Rd_place v30) hc34) yv_X6_fail wd_649 ⟨rfl, rfl⟩ (by decide) (fr_s (j := 0) rfl rfl rfl (fr_s (j := 1) rfl rfl rfl (fr_s (j := 2) rfl rfl rfl (fr_s (j := 3) rfl rfl rfl (fr_s (j := 4) rfl rfl rfl (fr_s (j := 5) rfl rfl rfl (fr_k (fr_k (fr_k (fr_k (fr_k (fr_k (fr_k (fr_k (fr_k (fr_n)))))))))))))))) rfl (by decide) 0 rfl rfl rfl (Nat.le_of_ble_eq_true rfl) dX6_readLine_179 ?_
          exact hJ23 _ hf
    refine r_icmp_ne (pc := 23) (tgt := 38) cx dX6_readLine_23 (by decide) (fun h35 => ?_) (fun h35 => ?_)
    · have hf := ifn h35 hf
      refine r_iload_n (pc := 38) cx dX6_readLine_38 0 rfl ?_
      refine r_bipush (pc := 39) cx dX6_readLine_39 bp_7 ?_
      refine r_icmp_lt (pc := 41) (tgt := 65) cx dX6_readLine_41 (by decide) (fun h36 => ?_) (fun h36 => ?_)
      · have hf := ifp h36 hf
        refine r_aload_n (pc := 65) cx dX6_readLine_65 1 rfl ?_
        refine r_get (pc := 66) cx cf_X6 0 13 rfl (by decide) rfl wd_265 dX6_readLine_66 ?_
        refine r_iload_n (pc := 69) cx dX6_readLine_69 0 rfl ?_
        refine r_ishr (pc := 70) cx dX6_readLine_70 ?_
        refine r_iconst (pc := 71) cx dX6_readLine_71 ic_1 ?_
        refine r_iand (pc := 72) cx dX6_readLine_72 ?_
        refine r_iconst (pc := 73) cx dX6_readLine_73 ic_1 ?_
        refine r_icmp_ne (pc := 74) (tgt := 86) cx dX6_readLine_74 (by decide) (fun h37 => ?_) (fun h37 => ?_)
        · have hf := ifn h37 hf
          refine r_loc (loc' := [(0, .ref (q 0)), (1, .ref (g 0)), (2, .int y1)]) [1, 2, 0] rfl ?_
          exact hJ4 _ hf
        · have hf := ifp h37 hf
          refine r_aload_n (pc := 77) cx dX6_readLine_77 1 rfl ?_
          refine r_iconst (pc := 78) cx dX6_readLine_78 ic_3 ?_
          refine r_aload_n (pc := 79) cx dX6_readLine_79 1 rfl ?_
          refine r_get (pc := 80) cx cf_X6 0 12 rfl (by decide) rfl wd_264 dX6_readLine_80 ?_
          obtain ⟨v38, hc39, hf⟩ := bd_of hf
          refine r_Vv (pc := 83) (ws' := [((q 0), ob 5 [.ref (q 1), .int (Rd_filled v38), .int (Rd_fault v38), .int (Rd_faultPlace v38), .ref (q 2), .ref (q 3), .ref (q 4), .ref (q 5), .int (Rd_limit v38), .int (Rd_position v38), .int (Rd_token v38), .int (Rd_value v38), .int (Rd_place v38), .int (Rd_toldRules v38), .int (Rd_toldData v38)]), ((q 1), aB K 700 (Rd_tape v38)), ((q 2), aI K 25 (Rd_words v38)), ((q 3), aI K 75 (Rd_sorts v38)), ((q 4), aI K 3 (Rd_parts v38)), ((q 5), aI K 64 (Rd_wantedPlaces v38)), ((g 0), ob 3 [.ref (g 1), .ref (g 2), .ref (g 3), .ref (g 4), .ref (g 5), .ref (g 6), .ref (g 7), .ref (g 8), .int (Pg_nameCount pr), .int (Pg_size pr), .int (Pg_lines pr)]), ((g 1), aI K 64 (Pg_code pr)), ((g 2), aI K 64 (Pg_first pr)), ((g 3), aI K 64 (Pg_second pr)), ((g 4), aI K 64 (Pg_third pr)), ((g 5), aI K 8 (Pg_rules pr)), ((g 6), aI K 32 (Pg_data pr)), ((g 7), aI K 140 (Pg_names pr)), ((g 8), aI K 140 (Pg_namedPlaces pr))]) (nn := 6) cx [.int (3 : Int32), .int (Rd_place v)] [] (m_Rd_fail l D K q v (3 : Int32) (Rd_place v) hc39) yv_X6_fail wd_649 ⟨rfl, rfl⟩ (by decide) (fr_s (j := 0) rfl rfl rfl (fr_s (j := 1) rfl rfl rfl (fr_s (j := 2) rfl rfl rfl (fr_s (j := 3) rfl rfl rfl (fr_s (j := 4) rfl rfl rfl (fr_s (j := 5) rfl rfl rfl (fr_k (fr_k (fr_k (fr_k (fr_k (fr_k (fr_k (fr_k (fr_k (fr_n)))))))))))))))) rfl (by decide) 0 rfl rfl rfl (Nat.le_of_ble_eq_true rfl) dX6_readLine_83 ?_
          refine r_loc (loc' := [(0, .ref (q 0)), (1, .ref (g 0)), (2, .int y1)]) [1, 2, 0] rfl ?_
          exact hJ4 _ hf
      · have hf := ifn h36 hf
        refine r_aload_n (pc := 44) cx dX6_readLine_44 2 rfl ?_
        refine r_get (pc := 45) cx cf_X4 6 9 rfl (by decide) rfl wd_156 dX6_readLine_45 ?_
        refine r_bipush (pc := 48) cx dX6_readLine_48 bp_40 ?_
        refine r_icmp_lt (pc := 50) (tgt := 65) cx dX6_readLine_50 (by decide) (fun h40 => ?_) (fun h40 => ?_)
        · have hf := ifp h40 hf
          refine r_aload_n (pc := 65) cx dX6_readLine_65 1 rfl ?_
          refine r_get (pc := 66) cx cf_X6 0 13 rfl (by decide) rfl wd_265 dX6_readLine_66 ?_
          refine r_iload_n (pc := 69) cx dX6_readLine_69 0 rfl ?_
          refine r_ishr (pc := 70) cx dX6_readLine_70 ?_
          refine r_iconst (pc := 71) cx dX6_readLine_71 ic_1 ?_
          refine r_iand (pc := 72) cx dX6_readLine_72 ?_
          refine r_iconst (pc := 73) cx dX6_readLine_73 ic_1 ?_
          refine r_icmp_ne (pc := 74) (tgt := 86) cx dX6_readLine_74 (by decide) (fun h41 => ?_) (fun h41 => ?_)
          · have hf := ifn h41 hf
            refine r_loc (loc' := [(0, .ref (q 0)), (1, .ref (g 0)), (2, .int y1)]) [1, 2, 0] rfl ?_
            exact hJ4 _ hf
          · have hf := ifp h41 hf
            refine r_aload_n (pc := 77) cx dX6_readLine_77 1 rfl ?_
            refine r_iconst (pc := 78) cx dX6_readLine_78 ic_3 ?_
            refine r_aload_n (pc := 79) cx dX6_readLine_79 1 rfl ?_
            refine r_get (pc := 80) cx cf_X6 0 12 rfl (by decide) rfl wd_264 dX6_readLine_80 ?_
            obtain ⟨v42, hc43, hf⟩ := bd_of hf
            refine r_Vv (pc := 83) (ws' := [((q 0), ob 5 [.ref (q 1), .int (Rd_filled v42), .int (Rd_fault v42), .int (Rd_faultPlace v42), .ref (q 2), .ref (q 3), .ref (q 4), .ref (q 5), .int (Rd_limit v42), .int (Rd_position v42), .int (Rd_token v42), .int (Rd_value v42), .int (Rd_place v42), .int (Rd_toldRules v42), .int (Rd_toldData v42)]), ((q 1), aB K 700 (Rd_tape v42)), ((q 2), aI K 25 (Rd_words v42)), ((q 3), aI K 75 (Rd_sorts v42)), ((q 4), aI K 3 (Rd_parts v42)), ((q 5), aI K 64 (Rd_wantedPlaces v42)), ((g 0), ob 3 [.ref (g 1), .ref (g 2), .ref (g 3), .ref (g 4), .ref (g 5), .ref (g 6), .ref (g 7), .ref (g 8), .int (Pg_nameCount pr), .int (Pg_size pr), .int (Pg_lines pr)]), ((g 1), aI K 64 (Pg_code pr)), ((g 2), aI K 64 (Pg_first pr)), ((g 3), aI K 64 (Pg_second pr)), ((g 4), aI K 64 (Pg_third pr)), ((g 5), aI K 8 (Pg_rules pr)), ((g 6), aI K 32 (Pg_data pr)), ((g 7), aI K 140 (Pg_names pr)), ((g 8), aI K 140 (Pg_namedPlaces pr))]) (nn := 6) cx [.int (3 : Int32), .int (Rd_place v)] [] (m_Rd_fail l D K q v (3 : Int32) (Rd_place v) hc43) yv_X6_fail wd_649 ⟨rfl, rfl⟩ (by decide) (fr_s (j := 0) rfl rfl rfl (fr_s (j := 1) rfl rfl rfl (fr_s (j := 2) rfl rfl rfl (fr_s (j := 3) rfl rfl rfl (fr_s (j := 4) rfl rfl rfl (fr_s (j := 5) rfl rfl rfl (fr_k (fr_k (fr_k (fr_k (fr_k (fr_k (fr_k (fr_k (fr_k (fr_n)))))))))))))))) rfl (by decide) 0 rfl rfl rfl (Nat.le_of_ble_eq_true rfl) dX6_readLine_83 ?_
            refine r_loc (loc' := [(0, .ref (q 0)), (1, .ref (g 0)), (2, .int y1)]) [1, 2, 0] rfl ?_
            exact hJ4 _ hf
        · have hf := ifn h40 hf
          refine r_aload_n (pc := 53) cx dX6_readLine_53 1 rfl ?_
          refine r_iconst (pc := 54) cx dX6_readLine_54 ic_2 ?_
          refine r_aload_n (pc := 55) cx dX6_readLine_55 1 rfl ?_
          refine r_get (pc := 56) cx cf_X6 0 12 rfl (by decide) rfl wd_264 dX6_readLine_56 ?_
          obtain ⟨v44, hc45, hf⟩ := bd_of hf
          refine r_Vv (pc := 59) (ws' := [((q 0), ob 5 [.ref (q 1), .int (Rd_filled v44), .int (Rd_fault v44), .int (Rd_faultPlace v44), .ref (q 2), .ref (q 3), .ref (q 4), .ref (q 5), .int (Rd_limit v44), .int (Rd_position v44), .int (Rd_token v44), .int (Rd_value v44), .int (Rd_place v44), .int (Rd_toldRules v44), .int (Rd_toldData v44)]), ((q 1), aB K 700 (Rd_tape v44)), ((q 2), aI K 25 (Rd_words v44)), ((q 3), aI K 75 (Rd_sorts v44)), ((q 4), aI K 3 (Rd_parts v44)), ((q 5), aI K 64 (Rd_wantedPlaces v44)), ((g 0), ob 3 [.ref (g 1), .ref (g 2), .ref (g 3), .ref (g 4), .ref (g 5), .ref (g 6), .ref (g 7), .ref (g 8), .int (Pg_nameCount pr), .int (Pg_size pr), .int (Pg_lines pr)]), ((g 1), aI K 64 (Pg_code pr)), ((g 2), aI K 64 (Pg_first pr)), ((g 3), aI K 64 (Pg_second pr)), ((g 4), aI K 64 (Pg_third pr)), ((g 5), aI K 8 (Pg_rules pr)), ((g 6), aI K 32 (Pg_data pr)), ((g 7), aI K 140 (Pg_names pr)), ((g 8), aI K 140 (Pg_namedPlaces pr))]) (nn := 6) cx [.int (2 : Int32), .int (Rd_place v)] [] (m_Rd_fail l D K q v (2 : Int32) (Rd_place v) hc45) yv_X6_fail wd_649 ⟨rfl, rfl⟩ (by decide) (fr_s (j := 0) rfl rfl rfl (fr_s (j := 1) rfl rfl rfl (fr_s (j := 2) rfl rfl rfl (fr_s (j := 3) rfl rfl rfl (fr_s (j := 4) rfl rfl rfl (fr_s (j := 5) rfl rfl rfl (fr_k (fr_k (fr_k (fr_k (fr_k (fr_k (fr_k (fr_k (fr_k (fr_n)))))))))))))))) rfl (by decide) 0 rfl rfl rfl (Nat.le_of_ble_eq_true rfl) dX6_readLine_59 ?_
          refine r_goto (pc := 62) (tgt := 86) cx dX6_readLine_62 (by decide) ?_
          refine r_loc (loc' := [(0, .ref (q 0)), (1, .ref (g 0)), (2, .int y1)]) [1, 2, 0] rfl ?_
          exact hJ4 _ hf
    · have hf := ifp h35 hf
      refine r_aload_n (pc := 26) cx dX6_readLine_26 1 rfl ?_
      refine r_iconst (pc := 27) cx dX6_readLine_27 ic_1 ?_
      refine r_aload_n (pc := 28) cx dX6_readLine_28 1 rfl ?_
      refine r_get (pc := 29) cx cf_X6 0 12 rfl (by decide) rfl wd_264 dX6_readLine_29 ?_
      obtain ⟨v46, hc47, hf⟩ := bd_of hf
      refine r_Vv (pc := 32) (ws' := [((q 0), ob 5 [.ref (q 1), .int (Rd_filled v46), .int (Rd_fault v46), .int (Rd_faultPlace v46), .ref (q 2), .ref (q 3), .ref (q 4), .ref (q 5), .int (Rd_limit v46), .int (Rd_position v46), .int (Rd_token v46), .int (Rd_value v46), .int (Rd_place v46), .int (Rd_toldRules v46), .int (Rd_toldData v46)]), ((q 1), aB K 700 (Rd_tape v46)), ((q 2), aI K 25 (Rd_words v46)), ((q 3), aI K 75 (Rd_sorts v46)), ((q 4), aI K 3 (Rd_parts v46)), ((q 5), aI K 64 (Rd_wantedPlaces v46)), ((g 0), ob 3 [.ref (g 1), .ref (g 2), .ref (g 3), .ref (g 4), .ref (g 5), .ref (g 6), .ref (g 7), .ref (g 8), .int (Pg_nameCount pr), .int (Pg_size pr), .int (Pg_lines pr)]), ((g 1), aI K 64 (Pg_code pr)), ((g 2), aI K 64 (Pg_first pr)), ((g 3), aI K 64 (Pg_second pr)), ((g 4), aI K 64 (Pg_third pr)), ((g 5), aI K 8 (Pg_rules pr)), ((g 6), aI K 32 (Pg_data pr)), ((g 7), aI K 140 (Pg_names pr)), ((g 8), aI K 140 (Pg_namedPlaces pr))]) (nn := 6) cx [.int (1 : Int32), .int (Rd_place v)] [] (m_Rd_fail l D K q v (1 : Int32) (Rd_place v) hc47) yv_X6_fail wd_649 ⟨rfl, rfl⟩ (by decide) (fr_s (j := 0) rfl rfl rfl (fr_s (j := 1) rfl rfl rfl (fr_s (j := 2) rfl rfl rfl (fr_s (j := 3) rfl rfl rfl (fr_s (j := 4) rfl rfl rfl (fr_s (j := 5) rfl rfl rfl (fr_k (fr_k (fr_k (fr_k (fr_k (fr_k (fr_k (fr_k (fr_k (fr_n)))))))))))))))) rfl (by decide) 0 rfl rfl rfl (Nat.le_of_ble_eq_true rfl) dX6_readLine_32 ?_
      refine r_goto (pc := 35) (tgt := 86) cx dX6_readLine_35 (by decide) ?_
      refine r_loc (loc' := [(0, .ref (q 0)), (1, .ref (g 0)), (2, .int y1)]) [1, 2, 0] rfl ?_
      exact hJ4 _ hf
  refine r_icmp_ne (pc := 5) (tgt := 19) cx dX6_readLine_5 (by decide) (fun h48 => ?_) (fun h48 => ?_)
  · have hf := ifn h48 hf
    refine r_iconst (pc := 19) cx dX6_readLine_19 ic_m1 ?_
    exact hJ2 _ hf
  · have hf := ifp h48 hf
    refine r_aload_n (pc := 8) cx dX6_readLine_8 0 rfl ?_
    refine r_aload_n (pc := 9) cx dX6_readLine_9 0 rfl ?_
    refine r_get (pc := 10) cx cf_X6 0 11 rfl (by decide) rfl wd_263 dX6_readLine_10 ?_
    obtain ⟨r49, hc50, hf⟩ := bd_of hf
    refine r_Vi (pc := 13) (ws' := [((q 0), ob 5 [.ref (q 1), .int (Rd_filled v), .int (Rd_fault v), .int (Rd_faultPlace v), .ref (q 2), .ref (q 3), .ref (q 4), .ref (q 5), .int (Rd_limit v), .int (Rd_position v), .int (Rd_token v), .int (Rd_value v), .int (Rd_place v), .int (Rd_toldRules v), .int (Rd_toldData v)]), ((q 1), aB K 700 (Rd_tape v)), ((q 2), aI K 25 (Rd_words v)), ((q 3), aI K 75 (Rd_sorts v)), ((q 4), aI K 3 (Rd_parts v)), ((q 5), aI K 64 (Rd_wantedPlaces v)), ((g 0), ob 3 [.ref (g 1), .ref (g 2), .ref (g 3), .ref (g 4), .ref (g 5), .ref (g 6), .ref (g 7), .ref (g 8), .int (Pg_nameCount pr), .int (Pg_size pr), .int (Pg_lines pr)]), ((g 1), aI K 64 (Pg_code pr)), ((g 2), aI K 64 (Pg_first pr)), ((g 3), aI K 64 (Pg_second pr)), ((g 4), aI K 64 (Pg_third pr)), ((g 5), aI K 8 (Pg_rules pr)), ((g 6), aI K 32 (Pg_data pr)), ((g 7), aI K 140 (Pg_names pr)), ((g 8), aI K 140 (Pg_namedPlaces pr))]) (nn := 6) cx [.int (Rd_value v)] [] (m_Rd_wordNumber l D K q v (Rd_value v) hc50) yv_X6_wordNumber wd_645 ⟨rfl, rfl⟩ (by decide) (fr_s (j := 0) rfl rfl rfl (fr_s (j := 1) rfl rfl rfl (fr_s (j := 2) rfl rfl rfl (fr_s (j := 3) rfl rfl rfl (fr_s (j := 4) rfl rfl rfl (fr_s (j := 5) rfl rfl rfl (fr_k (fr_k (fr_k (fr_k (fr_k (fr_k (fr_k (fr_k (fr_k (fr_n)))))))))))))))) rfl (by decide) 0 rfl rfl rfl (Nat.le_of_ble_eq_true rfl) dX6_readLine_13 ?_
    refine r_goto (pc := 16) (tgt := 20) cx dX6_readLine_16 (by decide) ?_
    exact hJ2 _ hf
theorem yv_X6_readLine : YV yX6_readLine cX6_readLine 5 (none) 1 := ⟨⟨by decide +kernel, by decide +kernel, by decide +kernel⟩, wd_644, wd_90, wd_643, wd_5⟩
def f_Rd_findNames_L2 (pr : T_Pg) (k2_74 : (Nat → Int32) → T_Rd → Option (T_Rd × T_Pg)) : Nat → Int32 → (Nat → Int32) → T_Rd → Option (T_Rd × T_Pg)
  | 0, _, _, _ => none
  | n2 + 1, x1, f2, v3 =>
    (if (Pg_size pr) ≤ x1 then (k2_74 f2 v3) else (if (40 : Int32) ≤ x1 then (k2_74 f2 v3) else (if (Rd_fault v3) = (0 : Int32) then (if ix x1 64 then (if ((Pg_code pr) x1.toNatClampNeg) < (14 : Int32) then (nm (x1 + (1 : Int32)) fun (x11 : Int32) => (f_Rd_findNames_L2 pr k2_74 n2 x11 f2 v3)) else (if ix x1 64 then (bd (f_Pg_placeOf ((Pg_code pr), (Pg_first pr), (Pg_second pr), f2, (Pg_rules pr), (Pg_data pr), (Pg_names pr), (Pg_namedPlaces pr), (Pg_nameCount pr), (Pg_size pr), (Pg_lines pr)) (f2 x1.toNatClampNeg)) fun (r13 : Int32) => (if r13 = (-1 : Int32) then (if ix x1 64 then (bd (f_Rd_fail v3 (4 : Int32) ((Rd_wantedPlaces v3) x1.toNatClampNeg)) fun (v20 : T_Rd) => (if ix x1 64 then (nm (upd f2 x1.toNatClampNeg r13) fun (f23 : Nat → Int32) => (nm (x1 + (1 : Int32)) fun (x24 : Int32) => (f_Rd_findNames_L2 pr k2_74 n2 x24 f23 v20))) else none)) else none) else (if ix x1 64 then (nm (upd f2 x1.toNatClampNeg r13) fun (f17 : Nat → Int32) => (nm (x1 + (1 : Int32)) fun (x18 : Int32) => (f_Rd_findNames_L2 pr k2_74 n2 x18 f17 v3))) else none))) else none)) else none) else (k2_74 f2 v3))))
def f_Rd_findNames (v : T_Rd) (pr : T_Pg) : Option (T_Rd × T_Pg) :=
  (f_Rd_findNames_L2 pr (fun (f4 : (Nat → Int32)) (v5 : T_Rd) => (some (v5, ((Pg_code pr), (Pg_first pr), (Pg_second pr), f4, (Pg_rules pr), (Pg_data pr), (Pg_names pr), (Pg_namedPlaces pr), (Pg_nameCount pr), (Pg_size pr), (Pg_lines pr))))) LF (0 : Int32) (Pg_third pr) v)
abbrev rm_Rd_findNames : Room := { frames := 1, cells := 0, slots := 0, locals := 22 }
set_option maxRecDepth 100000 in
set_option maxHeartbeats 4000000 in
theorem m_Rd_findNames (l : Launch) (D : va_G) (K : Nat → ClassId) (q : Nat → Nat) (v : T_Rd) (g : Nat → Nat) (pr : T_Pg) {o_v : T_Rd} {o_pr : T_Pg} (hf : f_Rd_findNames v pr = some (o_v, o_pr)) : MV l yX6_findNames cX6_findNames 4 (none) rm_Rd_findNames D K [.ref (q 0), .ref (g 0)] (cl_Rd K q v ++ (cl_Pg K g pr)) (cl_Rd K q o_v ++ (cl_Pg K g o_pr)) := by
  refine MV_of (loc0 := [(0, .ref (q 0)), (1, .ref (g 0))]) (by decide +kernel) rfl (Nat.le_of_ble_eq_true rfl) ?_
  intro p e s m args below meth c A cx
  unfold f_Rd_findNames at hf
  refine r_ws (ws' := [((q 0), ob 5 [.ref (q 1), .int (Rd_filled v), .int (Rd_fault v), .int (Rd_faultPlace v), .ref (q 2), .ref (q 3), .ref (q 4), .ref (q 5), .int (Rd_limit v), .int (Rd_position v), .int (Rd_token v), .int (Rd_value v), .int (Rd_place v), .int (Rd_toldRules v), .int (Rd_toldData v)]), ((q 1), aB K 700 (Rd_tape v)), ((q 2), aI K 25 (Rd_words v)), ((q 3), aI K 75 (Rd_sorts v)), ((q 4), aI K 3 (Rd_parts v)), ((q 5), aI K 64 (Rd_wantedPlaces v)), ((g 0), ob 3 [.ref (g 1), .ref (g 2), .ref (g 3), .ref (g 4), .ref (g 5), .ref (g 6), .ref (g 7), .ref (g 8), .int (Pg_nameCount pr), .int (Pg_size pr), .int (Pg_lines pr)]), ((g 1), aI K 64 (Pg_code pr)), ((g 2), aI K 64 (Pg_first pr)), ((g 3), aI K 64 (Pg_second pr)), ((g 4), aI K 64 (Pg_third pr)), ((g 5), aI K 8 (Pg_rules pr)), ((g 6), aI K 32 (Pg_data pr)), ((g 7), aI K 140 (Pg_names pr)), ((g 8), aI K 140 (Pg_namedPlaces pr))]) rfl ?_
  refine r_iconst (pc := 0) cx dX6_findNames_0 ic_0 ?_
  refine r_istore_n (pc := 1) (loc' := [(2, .int (0 : Int32)), (0, .ref (q 0)), (1, .ref (g 0))]) cx dX6_findNames_1 rfl (by decide) rfl ?_
  have hL2 : ∀ (k2_74 : (Nat → Int32) → T_Rd → Option (T_Rd × T_Pg)), (∀ (f4 : (Nat → Int32)) (v5 : T_Rd), k2_74 f4 v5 = some (o_v, o_pr) → WW p l e rm_Rd_findNames s m args below meth c D A 4 0 0 (MQ below (QV D K A (cl_Rd K q o_v ++ (cl_Pg K g o_pr))) args s 0 0 A) ([((q 0), ob 5 [.ref (q 1), .int (Rd_filled v5), .int (Rd_fault v5), .int (Rd_faultPlace v5), .ref (q 2), .ref (q 3), .ref (q 4), .ref (q 5), .int (Rd_limit v5), .int (Rd_position v5), .int (Rd_token v5), .int (Rd_value v5), .int (Rd_place v5), .int (Rd_toldRules v5), .int (Rd_toldData v5)]), ((q 1), aB K 700 (Rd_tape v5)), ((q 2), aI K 25 (Rd_words v5)), ((q 3), aI K 75 (Rd_sorts v5)), ((q 4), aI K 3 (Rd_parts v5)), ((q 5), aI K 64 (Rd_wantedPlaces v5)), ((g 0), ob 3 [.ref (g 1), .ref (g 2), .ref (g 3), .ref (g 4), .ref (g 5), .ref (g 6), .ref (g 7), .ref (g 8), .int (Pg_nameCount pr), .int (Pg_size pr), .int (Pg_lines pr)]), ((g 1), aI K 64 (Pg_code pr)), ((g 2), aI K 64 (Pg_first pr)), ((g 3), aI K 64 (Pg_second pr)), ((g 4), aI K 64 f4), ((g 5), aI K 8 (Pg_rules pr)), ((g 6), aI K 32 (Pg_data pr)), ((g 7), aI K 140 (Pg_names pr)), ((g 8), aI K 140 (Pg_namedPlaces pr))]) ([]) ([]) 74) → ∀ (n2 : Nat) (x1 : Int32) (f2 : (Nat → Int32)) (v3 : T_Rd), f_Rd_findNames_L2 pr k2_74 n2 x1 f2 v3 = some (o_v, o_pr) → WW p l e rm_Rd_findNames s m args below meth c D A 4 0 0 (MQ below (QV D K A (cl_Rd K q o_v ++ (cl_Pg K g o_pr))) args s 0 0 A) ([((q 0), ob 5 [.ref (q 1), .int (Rd_filled v3), .int (Rd_fault v3), .int (Rd_faultPlace v3), .ref (q 2), .ref (q 3), .ref (q 4), .ref (q 5), .int (Rd_limit v3), .int (Rd_position v3), .int (Rd_token v3), .int (Rd_value v3), .int (Rd_place v3), .int (Rd_toldRules v3), .int (Rd_toldData v3)]), ((q 1), aB K 700 (Rd_tape v3)), ((q 2), aI K 25 (Rd_words v3)), ((q 3), aI K 75 (Rd_sorts v3)), ((q 4), aI K 3 (Rd_parts v3)), ((q 5), aI K 64 (Rd_wantedPlaces v3)), ((g 0), ob 3 [.ref (g 1), .ref (g 2), .ref (g 3), .ref (g 4), .ref (g 5), .ref (g 6), .ref (g 7), .ref (g 8), .int (Pg_nameCount pr), .int (Pg_size pr), .int (Pg_lines pr)]), ((g 1), aI K 64 (Pg_code pr)), ((g 2), aI K 64 (Pg_first pr)), ((g 3), aI K 64 (Pg_second pr)), ((g 4), aI K 64 f2), ((g 5), aI K 8 (Pg_rules pr)), ((g 6), aI K 32 (Pg_data pr)), ((g 7), aI K 140 (Pg_names pr)), ((g 8), aI K 140 (Pg_namedPlaces pr))]) ([(0, .ref (q 0)), (1, .ref (g 0)), (2, .int x1)]) ([]) 2 := by
    intro k2_74 hk2_74 n2
    induction n2 with
    | zero => intro x1 f2 v3 hf; exact (nomatch (show (none : Option (T_Rd × T_Pg)) = some _ from hf))
    | succ n2 ih2 =>
      intro x1 f2 v3 hf
      rw [f_Rd_findNames_L2] at hf
      refine r_iload_n (pc := 2) cx dX6_findNames_2 2 rfl ?_
      refine r_aload_n (pc := 3) cx dX6_findNames_3 1 rfl ?_
      refine r_get (pc := 4) cx cf_X4 6 9 rfl (by decide) rfl wd_156 dX6_findNames_4 ?_
      refine r_icmp_ge (pc := 7) (tgt := 74) cx dX6_findNames_7 (by decide) (fun h6 => ?_) (fun h6 => ?_)
      · have hf := ifp h6 hf
        refine r_loc (loc' := []) [] rfl ?_
        exact hk2_74 _ _ hf
      · have hf := ifn h6 hf
        refine r_iload_n (pc := 10) cx dX6_findNames_10 2 rfl ?_
        refine r_bipush (pc := 11) cx dX6_findNames_11 bp_40 ?_
        refine r_icmp_ge (pc := 13) (tgt := 74) cx dX6_findNames_13 (by decide) (fun h7 => ?_) (fun h7 => ?_)
        · have hf := ifp h7 hf
          refine r_loc (loc' := []) [] rfl ?_
          exact hk2_74 _ _ hf
        · have hf := ifn h7 hf
          refine r_aload_n (pc := 16) cx dX6_findNames_16 0 rfl ?_
          refine r_get (pc := 17) cx cf_X6 0 2 rfl (by decide) rfl wd_253 dX6_findNames_17 ?_
          refine r_if_ne (pc := 20) (tgt := 74) cx dX6_findNames_20 (by decide) (fun h8 => ?_) (fun h8 => ?_)
          · have hf := ifn h8 hf
            refine r_loc (loc' := []) [] rfl ?_
            exact hk2_74 _ _ hf
          · have hf := ifp h8 hf
            refine r_aload_n (pc := 23) cx dX6_findNames_23 1 rfl ?_
            refine r_get (pc := 24) cx cf_X4 6 0 rfl (by decide) rfl wd_134 dX6_findNames_24 ?_
            refine r_iload_n (pc := 27) cx dX6_findNames_27 2 rfl ?_
            obtain ⟨h9, hf⟩ := chk_of hf
            refine r_iald (pc := 28) cx 7 rfl h9 dX6_findNames_28 ?_
            refine r_bipush (pc := 29) cx dX6_findNames_29 bp_14 ?_
            refine r_icmp_lt (pc := 31) (tgt := 68) cx dX6_findNames_31 (by decide) (fun h10 => ?_) (fun h10 => ?_)
            · have hf := ifp h10 hf
              obtain ⟨x11, ex11, hf⟩ := nm_of hf
              refine r_iinc (pc := 68) (loc' := [(2, .int x11), (0, .ref (q 0)), (1, .ref (g 0))]) (v := x11) cx dX6_findNames_68 2 rfl ((congrArg (fun z => x1 + z) ic_1).trans ex11.symm) (by decide) rfl ?_
              refine r_goto (pc := 71) (tgt := 2) cx dX6_findNames_71 (by decide) ?_
              refine r_loc (loc' := [(0, .ref (q 0)), (1, .ref (g 0)), (2, .int x11)]) [1, 2, 0] rfl ?_
              exact ih2 _ _ _ hf
            · have hf := ifn h10 hf
              refine r_aload_n (pc := 34) cx dX6_findNames_34 1 rfl ?_
              refine r_aload_n (pc := 35) cx dX6_findNames_35 1 rfl ?_
              refine r_get (pc := 36) cx cf_X4 6 3 rfl (by decide) rfl wd_142 dX6_findNames_36 ?_
              refine r_iload_n (pc := 39) cx dX6_findNames_39 2 rfl ?_
              obtain ⟨h12, hf⟩ := chk_of hf
              refine r_iald (pc := 40) cx 10 rfl h12 dX6_findNames_40 ?_
              obtain ⟨r13, hc14, hf⟩ := bd_of hf
              refine r_Vi (pc := 41) (ws' := [((q 0), ob 5 [.ref (q 1), .int (Rd_filled v3), .int (Rd_fault v3), .int (Rd_faultPlace v3), .ref (q 2), .ref (q 3), .ref (q 4), .ref (q 5), .int (Rd_limit v3), .int (Rd_position v3), .int (Rd_token v3), .int (Rd_value v3), .int (Rd_place v3), .int (Rd_toldRules v3), .int (Rd_toldData v3)]), ((q 1), aB K 700 (Rd_tape v3)), ((q 2), aI K 25 (Rd_words v3)), ((q 3), aI K 75 (Rd_sorts v3)), ((q 4), aI K 3 (Rd_parts v3)), ((q 5), aI K 64 (Rd_wantedPlaces v3)), ((g 0), ob 3 [.ref (g 1), .ref (g 2), .ref (g 3), .ref (g 4), .ref (g 5), .ref (g 6), .ref (g 7), .ref (g 8), .int (Pg_nameCount pr), .int (Pg_size pr), .int (Pg_lines pr)]), ((g 1), aI K 64 (Pg_code pr)), ((g 2), aI K 64 (Pg_first pr)), ((g 3), aI K 64 (Pg_second pr)), ((g 4), aI K 64 f2), ((g 5), aI K 8 (Pg_rules pr)), ((g 6), aI K 32 (Pg_data pr)), ((g 7), aI K 140 (Pg_names pr)), ((g 8), aI K 140 (Pg_namedPlaces pr))]) (nn := 9) cx [.int (f2 x1.toNatClampNeg)] [] (m_Pg_placeOf l D K g ((Pg_code pr), (Pg_first pr), (Pg_second pr), f2, (Pg_rules pr), (Pg_data pr), (Pg_names pr), (Pg_namedPlaces pr), (Pg_nameCount pr), (Pg_size pr), (Pg_lines pr)) (f2 x1.toNatClampNeg) hc14) yv_X4_placeOf wd_665 ⟨rfl, rfl⟩ (by decide) (fr_k (fr_k (fr_k (fr_k (fr_k (fr_k (fr_s (j := 0) rfl rfl rfl (fr_s (j := 1) rfl rfl rfl (fr_s (j := 2) rfl rfl rfl (fr_s (j := 3) rfl rfl rfl (fr_s (j := 4) rfl rfl rfl (fr_s (j := 5) rfl rfl rfl (fr_s (j := 6) rfl rfl rfl (fr_s (j := 7) rfl rfl rfl (fr_s (j := 8) rfl rfl rfl (fr_n)))))))))))))))) rfl (by decide) 6 rfl rfl rfl (Nat.le_of_ble_eq_true rfl) dX6_findNames_41 ?_
              refine r_istore_n (pc := 44) (loc' := [(3, .int r13), (0, .ref (q 0)), (1, .ref (g 0)), (2, .int x1)]) cx dX6_findNames_44 rfl (by decide) rfl ?_
              refine r_iload_n (pc := 45) cx dX6_findNames_45 0 rfl ?_
              refine r_iconst (pc := 46) cx dX6_findNames_46 ic_m1 ?_
              refine r_icmp_ne (pc := 47) (tgt := 61) cx dX6_findNames_47 (by decide) (fun h15 => ?_) (fun h15 => ?_)
              · have hf := ifn h15 hf
                refine r_aload_n (pc := 61) cx dX6_findNames_61 2 rfl ?_
                refine r_get (pc := 62) cx cf_X4 6 3 rfl (by decide) rfl wd_142 dX6_findNames_62 ?_
                refine r_iload_n (pc := 65) cx dX6_findNames_65 3 rfl ?_
                refine r_iload_n (pc := 66) cx dX6_findNames_66 0 rfl ?_
                obtain ⟨h16, hf⟩ := chk_of hf
                obtain ⟨f17, ef17, hf⟩ := nm_of hf
                refine r_iast (pc := 67) (ws' := [((q 0), ob 5 [.ref (q 1), .int (Rd_filled v3), .int (Rd_fault v3), .int (Rd_faultPlace v3), .ref (q 2), .ref (q 3), .ref (q 4), .ref (q 5), .int (Rd_limit v3), .int (Rd_position v3), .int (Rd_token v3), .int (Rd_value v3), .int (Rd_place v3), .int (Rd_toldRules v3), .int (Rd_toldData v3)]), ((q 1), aB K 700 (Rd_tape v3)), ((q 2), aI K 25 (Rd_words v3)), ((q 3), aI K 75 (Rd_sorts v3)), ((q 4), aI K 3 (Rd_parts v3)), ((q 5), aI K 64 (Rd_wantedPlaces v3)), ((g 0), ob 3 [.ref (g 1), .ref (g 2), .ref (g 3), .ref (g 4), .ref (g 5), .ref (g 6), .ref (g 7), .ref (g 8), .int (Pg_nameCount pr), .int (Pg_size pr), .int (Pg_lines pr)]), ((g 1), aI K 64 (Pg_code pr)), ((g 2), aI K 64 (Pg_first pr)), ((g 3), aI K 64 (Pg_second pr)), ((g 4), aI K 64 f17), ((g 5), aI K 8 (Pg_rules pr)), ((g 6), aI K 32 (Pg_data pr)), ((g 7), aI K 140 (Pg_names pr)), ((g 8), aI K 140 (Pg_namedPlaces pr))]) cx 10 rfl h16 dX6_findNames_67 ef17 rfl ?_
                obtain ⟨x18, ex18, hf⟩ := nm_of hf
                refine r_iinc (pc := 68) (loc' := [(2, .int x18), (3, .int r13), (0, .ref (q 0)), (1, .ref (g 0))]) (v := x18) cx dX6_findNames_68 3 rfl ((congrArg (fun z => x1 + z) ic_1).trans ex18.symm) (by decide) rfl ?_
                refine r_goto (pc := 71) (tgt := 2) cx dX6_findNames_71 (by decide) ?_
                refine r_loc (loc' := [(0, .ref (q 0)), (1, .ref (g 0)), (2, .int x18)]) [2, 3, 0] rfl ?_
                exact ih2 _ _ _ hf
              · have hf := ifp h15 hf
                refine r_aload_n (pc := 50) cx dX6_findNames_50 1 rfl ?_
                refine r_iconst (pc := 51) cx dX6_findNames_51 ic_4 ?_
                refine r_aload_n (pc := 52) cx dX6_findNames_52 1 rfl ?_
                refine r_get (pc := 53) cx cf_X6 0 7 rfl (by decide) rfl wd_259 dX6_findNames_53 ?_
                refine r_iload_n (pc := 56) cx dX6_findNames_56 3 rfl ?_
                obtain ⟨h19, hf⟩ := chk_of hf
                refine r_iald (pc := 57) cx 5 rfl h19 dX6_findNames_57 ?_
                obtain ⟨v20, hc21, hf⟩ := bd_of hf
                refine r_Vv (pc := 58) (ws' := [((q 0), ob 5 [.ref (q 1), .int (Rd_filled v20), .int (Rd_fault v20), .int (Rd_faultPlace v20), .ref (q 2), .ref (q 3), .ref (q 4), .ref (q 5), .int (Rd_limit v20), .int (Rd_position v20), .int (Rd_token v20), .int (Rd_value v20), .int (Rd_place v20), .int (Rd_toldRules v20), .int (Rd_toldData v20)]), ((q 1), aB K 700 (Rd_tape v20)), ((q 2), aI K 25 (Rd_words v20)), ((q 3), aI K 75 (Rd_sorts v20)), ((q 4), aI K 3 (Rd_parts v20)), ((q 5), aI K 64 (Rd_wantedPlaces v20)), ((g 0), ob 3 [.ref (g 1), .ref (g 2), .ref (g 3), .ref (g 4), .ref (g 5), .ref (g 6), .ref (g 7), .ref (g 8), .int (Pg_nameCount pr), .int (Pg_size pr), .int (Pg_lines pr)]), ((g 1), aI K 64 (Pg_code pr)), ((g 2), aI K 64 (Pg_first pr)), ((g 3), aI K 64 (Pg_second pr)), ((g 4), aI K 64 f2), ((g 5), aI K 8 (Pg_rules pr)), ((g 6), aI K 32 (Pg_data pr)), ((g 7), aI K 140 (Pg_names pr)), ((g 8), aI K 140 (Pg_namedPlaces pr))]) (nn := 6) cx [.int (4 : Int32), .int ((Rd_wantedPlaces v3) x1.toNatClampNeg)] [] (m_Rd_fail l D K q v3 (4 : Int32) ((Rd_wantedPlaces v3) x1.toNatClampNeg) hc21) yv_X6_fail wd_649 ⟨rfl, rfl⟩ (by decide) (fr_s (j := 0) rfl rfl rfl (fr_s (j := 1) rfl rfl rfl (fr_s (j := 2) rfl rfl rfl (fr_s (j := 3) rfl rfl rfl (fr_s (j := 4) rfl rfl rfl (fr_s (j := 5) rfl rfl rfl (fr_k (fr_k (fr_k (fr_k (fr_k (fr_k (fr_k (fr_k (fr_k (fr_n)))))))))))))))) rfl (by decide) 0 rfl rfl rfl (Nat.le_of_ble_eq_true rfl) dX6_findNames_58 ?_
                refine r_aload_n (pc := 61) cx dX6_findNames_61 2 rfl ?_
                refine r_get (pc := 62) cx cf_X4 6 3 rfl (by decide) rfl wd_142 dX6_findNames_62 ?_
                refine r_iload_n (pc := 65) cx dX6_findNames_65 3 rfl ?_
                refine r_iload_n (pc := 66) cx dX6_findNames_66 0 rfl ?_
                obtain ⟨h22, hf⟩ := chk_of hf
                obtain ⟨f23, ef23, hf⟩ := nm_of hf
                refine r_iast (pc := 67) (ws' := [((q 0), ob 5 [.ref (q 1), .int (Rd_filled v20), .int (Rd_fault v20), .int (Rd_faultPlace v20), .ref (q 2), .ref (q 3), .ref (q 4), .ref (q 5), .int (Rd_limit v20), .int (Rd_position v20), .int (Rd_token v20), .int (Rd_value v20), .int (Rd_place v20), .int (Rd_toldRules v20), .int (Rd_toldData v20)]), ((q 1), aB K 700 (Rd_tape v20)), ((q 2), aI K 25 (Rd_words v20)), ((q 3), aI K 75 (Rd_sorts v20)), ((q 4), aI K 3 (Rd_parts v20)), ((q 5), aI K 64 (Rd_wantedPlaces v20)), ((g 0), ob 3 [.ref (g 1), .ref (g 2), .ref (g 3), .ref (g 4), .ref (g 5), .ref (g 6), .ref (g 7), .ref (g 8), .int (Pg_nameCount pr), .int (Pg_size pr), .int (Pg_lines pr)]), ((g 1), aI K 64 (Pg_code pr)), ((g 2), aI K 64 (Pg_first pr)), ((g 3), aI K 64 (Pg_second pr)), ((g 4), aI K 64 f23), ((g 5), aI K 8 (Pg_rules pr)), ((g 6), aI K 32 (Pg_data pr)), ((g 7), aI K 140 (Pg_names pr)), ((g 8), aI K 140 (Pg_namedPlaces pr))]) cx 10 rfl h22 dX6_findNames_67 ef23 rfl ?_
                obtain ⟨x24, ex24, hf⟩ := nm_of hf
                refine r_iinc (pc := 68) (loc' := [(2, .int x24), (3, .int r13), (0, .ref (q 0)), (1, .ref (g 0))]) (v := x24) cx dX6_findNames_68 3 rfl ((congrArg (fun z => x1 + z) ic_1).trans ex24.symm) (by decide) rfl ?_
                refine r_goto (pc := 71) (tgt := 2) cx dX6_findNames_71 (by decide) ?_
                refine r_loc (loc' := [(0, .ref (q 0)), (1, .ref (g 0)), (2, .int x24)]) [2, 3, 0] rfl ?_
                exact ih2 _ _ _ hf
  refine r_loc (loc' := [(0, .ref (q 0)), (1, .ref (g 0)), (2, .int (0 : Int32))]) [1, 2, 0] rfl ?_
  refine hL2 _ (fun f4 v5 hf => ?_) _ _ _ _ hf
  cases hf
  exact r_vret (pc := 74) cx rfl dX6_findNames_74
theorem yv_X6_findNames : YV yX6_findNames cX6_findNames 4 (none) 1 := ⟨⟨by decide +kernel, by decide +kernel, by decide +kernel⟩, wd_695, wd_90, wd_694, wd_13⟩
def f_Rd_readText_L45  (k45_81 : T_Pg → T_Rd → Option (T_Rd × T_Pg)) : Nat → Int32 → T_Pg → T_Rd → Option (T_Rd × T_Pg)
  | 0, _, _, _ => none
  | n45 + 1, x5, v6, v7 =>
    (if (700 : Int32) ≤ x5 then (k45_81 v6 v7) else (if (Rd_token v7) = (0 : Int32) then (k45_81 v6 v7) else (if (Rd_fault v7) = (0 : Int32) then (bd2 (f_Rd_readLine v7 v6) fun (v13 : T_Rd) (v14 : T_Pg) => (bd (f_Rd_advance v13) fun (v16 : T_Rd) => (nm (x5 + (1 : Int32)) fun (x18 : Int32) => (f_Rd_readText_L45 k45_81 n45 x18 v14 v16)))) else (k45_81 v6 v7))))
def f_Rd_readText (v : T_Rd) (pr : T_Pg) (a2 : Int32) : Option (T_Rd × T_Pg) :=
  (bd (f_Pg_clear pr) fun (v1 : T_Pg) => (bd (f_Rd_advance ((Rd_tape v), (0 : Int32), (0 : Int32), (-1 : Int32), (Rd_words v), (Rd_sorts v), (Rd_parts v), (Rd_wantedPlaces v), a2, (0 : Int32), (Rd_token v), (Rd_value v), (Rd_place v), (0 : Int32), (0 : Int32))) fun (v3 : T_Rd) => (f_Rd_readText_L45 (fun (v8 : T_Pg) (v9 : T_Rd) => (bd2 (f_Rd_findNames v9 v8) fun (v19 : T_Rd) (v20 : T_Pg) => (some (v19, v20)))) LF (0 : Int32) v1 v3)))
abbrev rm_Rd_readText : Room := { frames := 4, cells := 0, slots := 0, locals := 91 }
set_option maxRecDepth 100000 in
set_option maxHeartbeats 4000000 in
theorem m_Rd_readText (l : Launch) (D : va_G) (K : Nat → ClassId) (q : Nat → Nat) (v : T_Rd) (g : Nat → Nat) (pr : T_Pg) (a2 : Int32) {o_v : T_Rd} {o_pr : T_Pg} (hf : f_Rd_readText v pr a2 = some (o_v, o_pr)) : MV l yX6_readText cX6_readText 4 (none) rm_Rd_readText D K [.ref (q 0), .ref (g 0), .int a2] (cl_Rd K q v ++ (cl_Pg K g pr)) (cl_Rd K q o_v ++ (cl_Pg K g o_pr)) := by
  refine MV_of (loc0 := [(0, .ref (q 0)), (1, .ref (g 0)), (2, .int a2)]) (by decide +kernel) rfl (Nat.le_of_ble_eq_true rfl) ?_
  intro p e s m args below meth c A cx
  unfold f_Rd_readText at hf
  refine r_ws (ws' := [((q 0), ob 5 [.ref (q 1), .int (Rd_filled v), .int (Rd_fault v), .int (Rd_faultPlace v), .ref (q 2), .ref (q 3), .ref (q 4), .ref (q 5), .int (Rd_limit v), .int (Rd_position v), .int (Rd_token v), .int (Rd_value v), .int (Rd_place v), .int (Rd_toldRules v), .int (Rd_toldData v)]), ((q 1), aB K 700 (Rd_tape v)), ((q 2), aI K 25 (Rd_words v)), ((q 3), aI K 75 (Rd_sorts v)), ((q 4), aI K 3 (Rd_parts v)), ((q 5), aI K 64 (Rd_wantedPlaces v)), ((g 0), ob 3 [.ref (g 1), .ref (g 2), .ref (g 3), .ref (g 4), .ref (g 5), .ref (g 6), .ref (g 7), .ref (g 8), .int (Pg_nameCount pr), .int (Pg_size pr), .int (Pg_lines pr)]), ((g 1), aI K 64 (Pg_code pr)), ((g 2), aI K 64 (Pg_first pr)), ((g 3), aI K 64 (Pg_second pr)), ((g 4), aI K 64 (Pg_third pr)), ((g 5), aI K 8 (Pg_rules pr)), ((g 6), aI K 32 (Pg_data pr)), ((g 7), aI K 140 (Pg_names pr)), ((g 8), aI K 140 (Pg_namedPlaces pr))]) rfl ?_
  refine r_aload_n (pc := 0) cx dX6_readText_0 0 rfl ?_
  refine r_iload_n (pc := 1) cx dX6_readText_1 2 rfl ?_
  refine r_putI (pc := 2) (ws' := [((q 0), ob 5 [.ref (q 1), .int (Rd_filled v), .int (Rd_fault v), .int (Rd_faultPlace v), .ref (q 2), .ref (q 3), .ref (q 4), .ref (q 5), .int a2, .int (Rd_position v), .int (Rd_token v), .int (Rd_value v), .int (Rd_place v), .int (Rd_toldRules v), .int (Rd_toldData v)]), ((q 1), aB K 700 (Rd_tape v)), ((q 2), aI K 25 (Rd_words v)), ((q 3), aI K 75 (Rd_sorts v)), ((q 4), aI K 3 (Rd_parts v)), ((q 5), aI K 64 (Rd_wantedPlaces v)), ((g 0), ob 3 [.ref (g 1), .ref (g 2), .ref (g 3), .ref (g 4), .ref (g 5), .ref (g 6), .ref (g 7), .ref (g 8), .int (Pg_nameCount pr), .int (Pg_size pr), .int (Pg_lines pr)]), ((g 1), aI K 64 (Pg_code pr)), ((g 2), aI K 64 (Pg_first pr)), ((g 3), aI K 64 (Pg_second pr)), ((g 4), aI K 64 (Pg_third pr)), ((g 5), aI K 8 (Pg_rules pr)), ((g 6), aI K 32 (Pg_data pr)), ((g 7), aI K 140 (Pg_names pr)), ((g 8), aI K 140 (Pg_namedPlaces pr))]) cx cf_X6 0 8 rfl (by decide) (Nat.le_of_ble_eq_true rfl) rfl pfd_I wd_260 dX6_readText_2 rfl ?_
  refine r_aload_n (pc := 5) cx dX6_readText_5 0 rfl ?_
  refine r_iconst (pc := 6) cx dX6_readText_6 ic_0 ?_
  refine r_putI (pc := 7) (ws' := [((q 0), ob 5 [.ref (q 1), .int (Rd_filled v), .int (Rd_fault v), .int (Rd_faultPlace v), .ref (q 2), .ref (q 3), .ref (q 4), .ref (q 5), .int a2, .int (0 : Int32), .int (Rd_token v), .int (Rd_value v), .int (Rd_place v), .int (Rd_toldRules v), .int (Rd_toldData v)]), ((q 1), aB K 700 (Rd_tape v)), ((q 2), aI K 25 (Rd_words v)), ((q 3), aI K 75 (Rd_sorts v)), ((q 4), aI K 3 (Rd_parts v)), ((q 5), aI K 64 (Rd_wantedPlaces v)), ((g 0), ob 3 [.ref (g 1), .ref (g 2), .ref (g 3), .ref (g 4), .ref (g 5), .ref (g 6), .ref (g 7), .ref (g 8), .int (Pg_nameCount pr), .int (Pg_size pr), .int (Pg_lines pr)]), ((g 1), aI K 64 (Pg_code pr)), ((g 2), aI K 64 (Pg_first pr)), ((g 3), aI K 64 (Pg_second pr)), ((g 4), aI K 64 (Pg_third pr)), ((g 5), aI K 8 (Pg_rules pr)), ((g 6), aI K 32 (Pg_data pr)), ((g 7), aI K 140 (Pg_names pr)), ((g 8), aI K 140 (Pg_namedPlaces pr))]) cx cf_X6 0 9 rfl (by decide) (Nat.le_of_ble_eq_true rfl) rfl pfd_I wd_261 dX6_readText_7 rfl ?_
  refine r_aload_n (pc := 10) cx dX6_readText_10 0 rfl ?_
  refine r_iconst (pc := 11) cx dX6_readText_11 ic_0 ?_
  refine r_putI (pc := 12) (ws' := [((q 0), ob 5 [.ref (q 1), .int (Rd_filled v), .int (0 : Int32), .int (Rd_faultPlace v), .ref (q 2), .ref (q 3), .ref (q 4), .ref (q 5), .int a2, .int (0 : Int32), .int (Rd_token v), .int (Rd_value v), .int (Rd_place v), .int (Rd_toldRules v), .int (Rd_toldData v)]), ((q 1), aB K 700 (Rd_tape v)), ((q 2), aI K 25 (Rd_words v)), ((q 3), aI K 75 (Rd_sorts v)), ((q 4), aI K 3 (Rd_parts v)), ((q 5), aI K 64 (Rd_wantedPlaces v)), ((g 0), ob 3 [.ref (g 1), .ref (g 2), .ref (g 3), .ref (g 4), .ref (g 5), .ref (g 6), .ref (g 7), .ref (g 8), .int (Pg_nameCount pr), .int (Pg_size pr), .int (Pg_lines pr)]), ((g 1), aI K 64 (Pg_code pr)), ((g 2), aI K 64 (Pg_first pr)), ((g 3), aI K 64 (Pg_second pr)), ((g 4), aI K 64 (Pg_third pr)), ((g 5), aI K 8 (Pg_rules pr)), ((g 6), aI K 32 (Pg_data pr)), ((g 7), aI K 140 (Pg_names pr)), ((g 8), aI K 140 (Pg_namedPlaces pr))]) cx cf_X6 0 2 rfl (by decide) (Nat.le_of_ble_eq_true rfl) rfl pfd_I wd_253 dX6_readText_12 rfl ?_
  refine r_aload_n (pc := 15) cx dX6_readText_15 0 rfl ?_
  refine r_iconst (pc := 16) cx dX6_readText_16 ic_m1 ?_
  refine r_putI (pc := 17) (ws' := [((q 0), ob 5 [.ref (q 1), .int (Rd_filled v), .int (0 : Int32), .int (-1 : Int32), .ref (q 2), .ref (q 3), .ref (q 4), .ref (q 5), .int a2, .int (0 : Int32), .int (Rd_token v), .int (Rd_value v), .int (Rd_place v), .int (Rd_toldRules v), .int (Rd_toldData v)]), ((q 1), aB K 700 (Rd_tape v)), ((q 2), aI K 25 (Rd_words v)), ((q 3), aI K 75 (Rd_sorts v)), ((q 4), aI K 3 (Rd_parts v)), ((q 5), aI K 64 (Rd_wantedPlaces v)), ((g 0), ob 3 [.ref (g 1), .ref (g 2), .ref (g 3), .ref (g 4), .ref (g 5), .ref (g 6), .ref (g 7), .ref (g 8), .int (Pg_nameCount pr), .int (Pg_size pr), .int (Pg_lines pr)]), ((g 1), aI K 64 (Pg_code pr)), ((g 2), aI K 64 (Pg_first pr)), ((g 3), aI K 64 (Pg_second pr)), ((g 4), aI K 64 (Pg_third pr)), ((g 5), aI K 8 (Pg_rules pr)), ((g 6), aI K 32 (Pg_data pr)), ((g 7), aI K 140 (Pg_names pr)), ((g 8), aI K 140 (Pg_namedPlaces pr))]) cx cf_X6 0 3 rfl (by decide) (Nat.le_of_ble_eq_true rfl) rfl pfd_I wd_254 dX6_readText_17 rfl ?_
  refine r_aload_n (pc := 20) cx dX6_readText_20 0 rfl ?_
  refine r_iconst (pc := 21) cx dX6_readText_21 ic_0 ?_
  refine r_putI (pc := 22) (ws' := [((q 0), ob 5 [.ref (q 1), .int (Rd_filled v), .int (0 : Int32), .int (-1 : Int32), .ref (q 2), .ref (q 3), .ref (q 4), .ref (q 5), .int a2, .int (0 : Int32), .int (Rd_token v), .int (Rd_value v), .int (Rd_place v), .int (0 : Int32), .int (Rd_toldData v)]), ((q 1), aB K 700 (Rd_tape v)), ((q 2), aI K 25 (Rd_words v)), ((q 3), aI K 75 (Rd_sorts v)), ((q 4), aI K 3 (Rd_parts v)), ((q 5), aI K 64 (Rd_wantedPlaces v)), ((g 0), ob 3 [.ref (g 1), .ref (g 2), .ref (g 3), .ref (g 4), .ref (g 5), .ref (g 6), .ref (g 7), .ref (g 8), .int (Pg_nameCount pr), .int (Pg_size pr), .int (Pg_lines pr)]), ((g 1), aI K 64 (Pg_code pr)), ((g 2), aI K 64 (Pg_first pr)), ((g 3), aI K 64 (Pg_second pr)), ((g 4), aI K 64 (Pg_third pr)), ((g 5), aI K 8 (Pg_rules pr)), ((g 6), aI K 32 (Pg_data pr)), ((g 7), aI K 140 (Pg_names pr)), ((g 8), aI K 140 (Pg_namedPlaces pr))]) cx cf_X6 0 13 rfl (by decide) (Nat.le_of_ble_eq_true rfl) rfl pfd_I wd_265 dX6_readText_22 rfl ?_
  refine r_aload_n (pc := 25) cx dX6_readText_25 0 rfl ?_
  refine r_iconst (pc := 26) cx dX6_readText_26 ic_0 ?_
  refine r_putI (pc := 27) (ws' := [((q 0), ob 5 [.ref (q 1), .int (Rd_filled v), .int (0 : Int32), .int (-1 : Int32), .ref (q 2), .ref (q 3), .ref (q 4), .ref (q 5), .int a2, .int (0 : Int32), .int (Rd_token v), .int (Rd_value v), .int (Rd_place v), .int (0 : Int32), .int (0 : Int32)]), ((q 1), aB K 700 (Rd_tape v)), ((q 2), aI K 25 (Rd_words v)), ((q 3), aI K 75 (Rd_sorts v)), ((q 4), aI K 3 (Rd_parts v)), ((q 5), aI K 64 (Rd_wantedPlaces v)), ((g 0), ob 3 [.ref (g 1), .ref (g 2), .ref (g 3), .ref (g 4), .ref (g 5), .ref (g 6), .ref (g 7), .ref (g 8), .int (Pg_nameCount pr), .int (Pg_size pr), .int (Pg_lines pr)]), ((g 1), aI K 64 (Pg_code pr)), ((g 2), aI K 64 (Pg_first pr)), ((g 3), aI K 64 (Pg_second pr)), ((g 4), aI K 64 (Pg_third pr)), ((g 5), aI K 8 (Pg_rules pr)), ((g 6), aI K 32 (Pg_data pr)), ((g 7), aI K 140 (Pg_names pr)), ((g 8), aI K 140 (Pg_namedPlaces pr))]) cx cf_X6 0 14 rfl (by decide) (Nat.le_of_ble_eq_true rfl) rfl pfd_I wd_266 dX6_readText_27 rfl ?_
  refine r_aload_n (pc := 30) cx dX6_readText_30 0 rfl ?_
  refine r_iconst (pc := 31) cx dX6_readText_31 ic_0 ?_
  refine r_putI (pc := 32) (ws' := [((q 0), ob 5 [.ref (q 1), .int (0 : Int32), .int (0 : Int32), .int (-1 : Int32), .ref (q 2), .ref (q 3), .ref (q 4), .ref (q 5), .int a2, .int (0 : Int32), .int (Rd_token v), .int (Rd_value v), .int (Rd_place v), .int (0 : Int32), .int (0 : Int32)]), ((q 1), aB K 700 (Rd_tape v)), ((q 2), aI K 25 (Rd_words v)), ((q 3), aI K 75 (Rd_sorts v)), ((q 4), aI K 3 (Rd_parts v)), ((q 5), aI K 64 (Rd_wantedPlaces v)), ((g 0), ob 3 [.ref (g 1), .ref (g 2), .ref (g 3), .ref (g 4), .ref (g 5), .ref (g 6), .ref (g 7), .ref (g 8), .int (Pg_nameCount pr), .int (Pg_size pr), .int (Pg_lines pr)]), ((g 1), aI K 64 (Pg_code pr)), ((g 2), aI K 64 (Pg_first pr)), ((g 3), aI K 64 (Pg_second pr)), ((g 4), aI K 64 (Pg_third pr)), ((g 5), aI K 8 (Pg_rules pr)), ((g 6), aI K 32 (Pg_data pr)), ((g 7), aI K 140 (Pg_names pr)), ((g 8), aI K 140 (Pg_namedPlaces pr))]) cx cf_X6 0 1 rfl (by decide) (Nat.le_of_ble_eq_true rfl) rfl pfd_I wd_251 dX6_readText_32 rfl ?_
  refine r_aload_n (pc := 35) cx dX6_readText_35 1 rfl ?_
  obtain ⟨v1, hc2, hf⟩ := bd_of hf
  refine r_Vv (pc := 36) (ws' := [((q 0), ob 5 [.ref (q 1), .int (0 : Int32), .int (0 : Int32), .int (-1 : Int32), .ref (q 2), .ref (q 3), .ref (q 4), .ref (q 5), .int a2, .int (0 : Int32), .int (Rd_token v), .int (Rd_value v), .int (Rd_place v), .int (0 : Int32), .int (0 : Int32)]), ((q 1), aB K 700 (Rd_tape v)), ((q 2), aI K 25 (Rd_words v)), ((q 3), aI K 75 (Rd_sorts v)), ((q 4), aI K 3 (Rd_parts v)), ((q 5), aI K 64 (Rd_wantedPlaces v)), ((g 0), ob 3 [.ref (g 1), .ref (g 2), .ref (g 3), .ref (g 4), .ref (g 5), .ref (g 6), .ref (g 7), .ref (g 8), .int (Pg_nameCount v1), .int (Pg_size v1), .int (Pg_lines v1)]), ((g 1), aI K 64 (Pg_code v1)), ((g 2), aI K 64 (Pg_first v1)), ((g 3), aI K 64 (Pg_second v1)), ((g 4), aI K 64 (Pg_third v1)), ((g 5), aI K 8 (Pg_rules v1)), ((g 6), aI K 32 (Pg_data v1)), ((g 7), aI K 140 (Pg_names v1)), ((g 8), aI K 140 (Pg_namedPlaces v1))]) (nn := 9) cx [] [] (m_Pg_clear l D K g pr hc2) yv_X4_clear wd_620 ⟨rfl, rfl⟩ (by decide) (fr_k (fr_k (fr_k (fr_k (fr_k (fr_k (fr_s (j := 0) rfl rfl rfl (fr_s (j := 1) rfl rfl rfl (fr_s (j := 2) rfl rfl rfl (fr_s (j := 3) rfl rfl rfl (fr_s (j := 4) rfl rfl rfl (fr_s (j := 5) rfl rfl rfl (fr_s (j := 6) rfl rfl rfl (fr_s (j := 7) rfl rfl rfl (fr_s (j := 8) rfl rfl rfl (fr_n)))))))))))))))) rfl (by decide) 6 rfl rfl rfl (Nat.le_of_ble_eq_true rfl) dX6_readText_36 ?_
  refine r_aload_n (pc := 39) cx dX6_readText_39 0 rfl ?_
  obtain ⟨v3, hc4, hf⟩ := bd_of hf
  refine r_Vv (pc := 40) (ws' := [((q 0), ob 5 [.ref (q 1), .int (Rd_filled v3), .int (Rd_fault v3), .int (Rd_faultPlace v3), .ref (q 2), .ref (q 3), .ref (q 4), .ref (q 5), .int (Rd_limit v3), .int (Rd_position v3), .int (Rd_token v3), .int (Rd_value v3), .int (Rd_place v3), .int (Rd_toldRules v3), .int (Rd_toldData v3)]), ((q 1), aB K 700 (Rd_tape v3)), ((q 2), aI K 25 (Rd_words v3)), ((q 3), aI K 75 (Rd_sorts v3)), ((q 4), aI K 3 (Rd_parts v3)), ((q 5), aI K 64 (Rd_wantedPlaces v3)), ((g 0), ob 3 [.ref (g 1), .ref (g 2), .ref (g 3), .ref (g 4), .ref (g 5), .ref (g 6), .ref (g 7), .ref (g 8), .int (Pg_nameCount v1), .int (Pg_size v1), .int (Pg_lines v1)]), ((g 1), aI K 64 (Pg_code v1)), ((g 2), aI K 64 (Pg_first v1)), ((g 3), aI K 64 (Pg_second v1)), ((g 4), aI K 64 (Pg_third v1)), ((g 5), aI K 8 (Pg_rules v1)), ((g 6), aI K 32 (Pg_data v1)), ((g 7), aI K 140 (Pg_names v1)), ((g 8), aI K 140 (Pg_namedPlaces v1))]) (nn := 6) cx [] [] (m_Rd_advance l D K q ((Rd_tape v), (0 : Int32), (0 : Int32), (-1 : Int32), (Rd_words v), (Rd_sorts v), (Rd_parts v), (Rd_wantedPlaces v), a2, (0 : Int32), (Rd_token v), (Rd_value v), (Rd_place v), (0 : Int32), (0 : Int32)) hc4) yv_X6_advance wd_621 ⟨rfl, rfl⟩ (by decide) (fr_s (j := 0) rfl rfl rfl (fr_s (j := 1) rfl rfl rfl (fr_s (j := 2) rfl rfl rfl (fr_s (j := 3) rfl rfl rfl (fr_s (j := 4) rfl rfl rfl (fr_s (j := 5) rfl rfl rfl (fr_k (fr_k (fr_k (fr_k (fr_k (fr_k (fr_k (fr_k (fr_k (fr_n)))))))))))))))) rfl (by decide) 0 rfl rfl rfl (Nat.le_of_ble_eq_true rfl) dX6_readText_40 ?_
  refine r_iconst (pc := 43) cx dX6_readText_43 ic_0 ?_
  refine r_istore_n (pc := 44) (loc' := [(3, .int (0 : Int32)), (0, .ref (q 0)), (1, .ref (g 0)), (2, .int a2)]) cx dX6_readText_44 rfl (by decide) rfl ?_
  have hL45 : ∀ (k45_81 : T_Pg → T_Rd → Option (T_Rd × T_Pg)), (∀ (v8 : T_Pg) (v9 : T_Rd), k45_81 v8 v9 = some (o_v, o_pr) → WW p l e rm_Rd_readText s m args below meth c D A 4 0 0 (MQ below (QV D K A (cl_Rd K q o_v ++ (cl_Pg K g o_pr))) args s 0 0 A) ([((q 0), ob 5 [.ref (q 1), .int (Rd_filled v9), .int (Rd_fault v9), .int (Rd_faultPlace v9), .ref (q 2), .ref (q 3), .ref (q 4), .ref (q 5), .int (Rd_limit v9), .int (Rd_position v9), .int (Rd_token v9), .int (Rd_value v9), .int (Rd_place v9), .int (Rd_toldRules v9), .int (Rd_toldData v9)]), ((q 1), aB K 700 (Rd_tape v9)), ((q 2), aI K 25 (Rd_words v9)), ((q 3), aI K 75 (Rd_sorts v9)), ((q 4), aI K 3 (Rd_parts v9)), ((q 5), aI K 64 (Rd_wantedPlaces v9)), ((g 0), ob 3 [.ref (g 1), .ref (g 2), .ref (g 3), .ref (g 4), .ref (g 5), .ref (g 6), .ref (g 7), .ref (g 8), .int (Pg_nameCount v8), .int (Pg_size v8), .int (Pg_lines v8)]), ((g 1), aI K 64 (Pg_code v8)), ((g 2), aI K 64 (Pg_first v8)), ((g 3), aI K 64 (Pg_second v8)), ((g 4), aI K 64 (Pg_third v8)), ((g 5), aI K 8 (Pg_rules v8)), ((g 6), aI K 32 (Pg_data v8)), ((g 7), aI K 140 (Pg_names v8)), ((g 8), aI K 140 (Pg_namedPlaces v8))]) ([(0, .ref (q 0)), (1, .ref (g 0))]) ([]) 81) → ∀ (n45 : Nat) (x5 : Int32) (v6 : T_Pg) (v7 : T_Rd), f_Rd_readText_L45 k45_81 n45 x5 v6 v7 = some (o_v, o_pr) → WW p l e rm_Rd_readText s m args below meth c D A 4 0 0 (MQ below (QV D K A (cl_Rd K q o_v ++ (cl_Pg K g o_pr))) args s 0 0 A) ([((q 0), ob 5 [.ref (q 1), .int (Rd_filled v7), .int (Rd_fault v7), .int (Rd_faultPlace v7), .ref (q 2), .ref (q 3), .ref (q 4), .ref (q 5), .int (Rd_limit v7), .int (Rd_position v7), .int (Rd_token v7), .int (Rd_value v7), .int (Rd_place v7), .int (Rd_toldRules v7), .int (Rd_toldData v7)]), ((q 1), aB K 700 (Rd_tape v7)), ((q 2), aI K 25 (Rd_words v7)), ((q 3), aI K 75 (Rd_sorts v7)), ((q 4), aI K 3 (Rd_parts v7)), ((q 5), aI K 64 (Rd_wantedPlaces v7)), ((g 0), ob 3 [.ref (g 1), .ref (g 2), .ref (g 3), .ref (g 4), .ref (g 5), .ref (g 6), .ref (g 7), .ref (g 8), .int (Pg_nameCount v6), .int (Pg_size v6), .int (Pg_lines v6)]), ((g 1), aI K 64 (Pg_code v6)), ((g 2), aI K 64 (Pg_first v6)), ((g 3), aI K 64 (Pg_second v6)), ((g 4), aI K 64 (Pg_third v6)), ((g 5), aI K 8 (Pg_rules v6)), ((g 6), aI K 32 (Pg_data v6)), ((g 7), aI K 140 (Pg_names v6)), ((g 8), aI K 140 (Pg_namedPlaces v6))]) ([(0, .ref (q 0)), (1, .ref (g 0)), (3, .int x5)]) ([]) 45 := by
    intro k45_81 hk45_81 n45
    induction n45 with
    | zero => intro x5 v6 v7 hf; exact (nomatch (show (none : Option (T_Rd × T_Pg)) = some _ from hf))
    | succ n45 ih45 =>
      intro x5 v6 v7 hf
      rw [f_Rd_readText_L45] at hf
      refine r_iload_n (pc := 45) cx dX6_readText_45 2 rfl ?_
      refine r_sipush (pc := 46) cx dX6_readText_46 sp_700 ?_
      refine r_icmp_ge (pc := 49) (tgt := 81) cx dX6_readText_49 (by decide) (fun h10 => ?_) (fun h10 => ?_)
      · have hf := ifp h10 hf
        refine r_loc (loc' := [(0, .ref (q 0)), (1, .ref (g 0))]) [0, 1] rfl ?_
        exact hk45_81 _ _ hf
      · have hf := ifn h10 hf
        refine r_aload_n (pc := 52) cx dX6_readText_52 0 rfl ?_
        refine r_get (pc := 53) cx cf_X6 0 10 rfl (by decide) rfl wd_262 dX6_readText_53 ?_
        refine r_if_eq (pc := 56) (tgt := 81) cx dX6_readText_56 (by decide) (fun h11 => ?_) (fun h11 => ?_)
        · have hf := ifp h11 hf
          refine r_loc (loc' := [(0, .ref (q 0)), (1, .ref (g 0))]) [0, 1] rfl ?_
          exact hk45_81 _ _ hf
        · have hf := ifn h11 hf
          refine r_aload_n (pc := 59) cx dX6_readText_59 0 rfl ?_
          refine r_get (pc := 60) cx cf_X6 0 2 rfl (by decide) rfl wd_253 dX6_readText_60 ?_
          refine r_if_ne (pc := 63) (tgt := 81) cx dX6_readText_63 (by decide) (fun h12 => ?_) (fun h12 => ?_)
          · have hf := ifn h12 hf
            refine r_loc (loc' := [(0, .ref (q 0)), (1, .ref (g 0))]) [0, 1] rfl ?_
            exact hk45_81 _ _ hf
          · have hf := ifp h12 hf
            refine r_aload_n (pc := 66) cx dX6_readText_66 0 rfl ?_
            refine r_aload_n (pc := 67) cx dX6_readText_67 1 rfl ?_
            obtain ⟨v13, v14, hc15, hf⟩ := bd2_of hf
            refine r_Vv (pc := 68) (ws' := [((q 0), ob 5 [.ref (q 1), .int (Rd_filled v13), .int (Rd_fault v13), .int (Rd_faultPlace v13), .ref (q 2), .ref (q 3), .ref (q 4), .ref (q 5), .int (Rd_limit v13), .int (Rd_position v13), .int (Rd_token v13), .int (Rd_value v13), .int (Rd_place v13), .int (Rd_toldRules v13), .int (Rd_toldData v13)]), ((q 1), aB K 700 (Rd_tape v13)), ((q 2), aI K 25 (Rd_words v13)), ((q 3), aI K 75 (Rd_sorts v13)), ((q 4), aI K 3 (Rd_parts v13)), ((q 5), aI K 64 (Rd_wantedPlaces v13)), ((g 0), ob 3 [.ref (g 1), .ref (g 2), .ref (g 3), .ref (g 4), .ref (g 5), .ref (g 6), .ref (g 7), .ref (g 8), .int (Pg_nameCount v14), .int (Pg_size v14), .int (Pg_lines v14)]), ((g 1), aI K 64 (Pg_code v14)), ((g 2), aI K 64 (Pg_first v14)), ((g 3), aI K 64 (Pg_second v14)), ((g 4), aI K 64 (Pg_third v14)), ((g 5), aI K 8 (Pg_rules v14)), ((g 6), aI K 32 (Pg_data v14)), ((g 7), aI K 140 (Pg_names v14)), ((g 8), aI K 140 (Pg_namedPlaces v14))]) (nn := 15) cx [.ref (g 0)] [] (m_Rd_readLine l D K q v7 g v6 hc15) yv_X6_readLine wd_641 ⟨rfl, rfl⟩ (by decide) (fr_s (j := 0) rfl rfl rfl (fr_s (j := 1) rfl rfl rfl (fr_s (j := 2) rfl rfl rfl (fr_s (j := 3) rfl rfl rfl (fr_s (j := 4) rfl rfl rfl (fr_s (j := 5) rfl rfl rfl (fr_s (j := 6) rfl rfl rfl (fr_s (j := 7) rfl rfl rfl (fr_s (j := 8) rfl rfl rfl (fr_s (j := 9) rfl rfl rfl (fr_s (j := 10) rfl rfl rfl (fr_s (j := 11) rfl rfl rfl (fr_s (j := 12) rfl rfl rfl (fr_s (j := 13) rfl rfl rfl (fr_s (j := 14) rfl rfl rfl (fr_n)))))))))))))))) rfl (by decide) 0 rfl rfl rfl (Nat.le_of_ble_eq_true rfl) dX6_readText_68 ?_
            refine r_aload_n (pc := 71) cx dX6_readText_71 0 rfl ?_
            obtain ⟨v16, hc17, hf⟩ := bd_of hf
            refine r_Vv (pc := 72) (ws' := [((q 0), ob 5 [.ref (q 1), .int (Rd_filled v16), .int (Rd_fault v16), .int (Rd_faultPlace v16), .ref (q 2), .ref (q 3), .ref (q 4), .ref (q 5), .int (Rd_limit v16), .int (Rd_position v16), .int (Rd_token v16), .int (Rd_value v16), .int (Rd_place v16), .int (Rd_toldRules v16), .int (Rd_toldData v16)]), ((q 1), aB K 700 (Rd_tape v16)), ((q 2), aI K 25 (Rd_words v16)), ((q 3), aI K 75 (Rd_sorts v16)), ((q 4), aI K 3 (Rd_parts v16)), ((q 5), aI K 64 (Rd_wantedPlaces v16)), ((g 0), ob 3 [.ref (g 1), .ref (g 2), .ref (g 3), .ref (g 4), .ref (g 5), .ref (g 6), .ref (g 7), .ref (g 8), .int (Pg_nameCount v14), .int (Pg_size v14), .int (Pg_lines v14)]), ((g 1), aI K 64 (Pg_code v14)), ((g 2), aI K 64 (Pg_first v14)), ((g 3), aI K 64 (Pg_second v14)), ((g 4), aI K 64 (Pg_third v14)), ((g 5), aI K 8 (Pg_rules v14)), ((g 6), aI K 32 (Pg_data v14)), ((g 7), aI K 140 (Pg_names v14)), ((g 8), aI K 140 (Pg_namedPlaces v14))]) (nn := 6) cx [] [] (m_Rd_advance l D K q v13 hc17) yv_X6_advance wd_621 ⟨rfl, rfl⟩ (by decide) (fr_s (j := 0) rfl rfl rfl (fr_s (j := 1) rfl rfl rfl (fr_s (j := 2) rfl rfl rfl (fr_s (j := 3) rfl rfl rfl (fr_s (j := 4) rfl rfl rfl (fr_s (j := 5) rfl rfl rfl (fr_k (fr_k (fr_k (fr_k (fr_k (fr_k (fr_k (fr_k (fr_k (fr_n)))))))))))))))) rfl (by decide) 0 rfl rfl rfl (Nat.le_of_ble_eq_true rfl) dX6_readText_72 ?_
            obtain ⟨x18, ex18, hf⟩ := nm_of hf
            refine r_iinc (pc := 75) (loc' := [(3, .int x18), (0, .ref (q 0)), (1, .ref (g 0))]) (v := x18) cx dX6_readText_75 2 rfl ((congrArg (fun z => x5 + z) ic_1).trans ex18.symm) (by decide) rfl ?_
            refine r_goto (pc := 78) (tgt := 45) cx dX6_readText_78 (by decide) ?_
            refine r_loc (loc' := [(0, .ref (q 0)), (1, .ref (g 0)), (3, .int x18)]) [1, 2, 0] rfl ?_
            exact ih45 _ _ _ hf
  refine r_loc (loc' := [(0, .ref (q 0)), (1, .ref (g 0)), (3, .int (0 : Int32))]) [1, 2, 0] rfl ?_
  refine hL45 _ (fun v8 v9 hf => ?_) _ _ _ _ hf
  refine r_aload_n (pc := 81) cx dX6_readText_81 0 rfl ?_
  refine r_aload_n (pc := 82) cx dX6_readText_82 1 rfl ?_
  obtain ⟨v19, v20, hc21, hf⟩ := bd2_of hf
  refine r_Vv (pc := 83) (ws' := [((q 0), ob 5 [.ref (q 1), .int (Rd_filled v19), .int (Rd_fault v19), .int (Rd_faultPlace v19), .ref (q 2), .ref (q 3), .ref (q 4), .ref (q 5), .int (Rd_limit v19), .int (Rd_position v19), .int (Rd_token v19), .int (Rd_value v19), .int (Rd_place v19), .int (Rd_toldRules v19), .int (Rd_toldData v19)]), ((q 1), aB K 700 (Rd_tape v19)), ((q 2), aI K 25 (Rd_words v19)), ((q 3), aI K 75 (Rd_sorts v19)), ((q 4), aI K 3 (Rd_parts v19)), ((q 5), aI K 64 (Rd_wantedPlaces v19)), ((g 0), ob 3 [.ref (g 1), .ref (g 2), .ref (g 3), .ref (g 4), .ref (g 5), .ref (g 6), .ref (g 7), .ref (g 8), .int (Pg_nameCount v20), .int (Pg_size v20), .int (Pg_lines v20)]), ((g 1), aI K 64 (Pg_code v20)), ((g 2), aI K 64 (Pg_first v20)), ((g 3), aI K 64 (Pg_second v20)), ((g 4), aI K 64 (Pg_third v20)), ((g 5), aI K 8 (Pg_rules v20)), ((g 6), aI K 32 (Pg_data v20)), ((g 7), aI K 140 (Pg_names v20)), ((g 8), aI K 140 (Pg_namedPlaces v20))]) (nn := 15) cx [.ref (g 0)] [] (m_Rd_findNames l D K q v9 g v8 hc21) yv_X6_findNames wd_692 ⟨rfl, rfl⟩ (by decide) (fr_s (j := 0) rfl rfl rfl (fr_s (j := 1) rfl rfl rfl (fr_s (j := 2) rfl rfl rfl (fr_s (j := 3) rfl rfl rfl (fr_s (j := 4) rfl rfl rfl (fr_s (j := 5) rfl rfl rfl (fr_s (j := 6) rfl rfl rfl (fr_s (j := 7) rfl rfl rfl (fr_s (j := 8) rfl rfl rfl (fr_s (j := 9) rfl rfl rfl (fr_s (j := 10) rfl rfl rfl (fr_s (j := 11) rfl rfl rfl (fr_s (j := 12) rfl rfl rfl (fr_s (j := 13) rfl rfl rfl (fr_s (j := 14) rfl rfl rfl (fr_n)))))))))))))))) rfl (by decide) 0 rfl rfl rfl (Nat.le_of_ble_eq_true rfl) dX6_readText_83 ?_
  cases hf
  exact r_vret (pc := 86) cx rfl dX6_readText_86
theorem yv_X6_readText : YV yX6_readText cX6_readText 4 (none) 2 := ⟨⟨by decide +kernel, by decide +kernel, by decide +kernel⟩, wd_619, wd_90, wd_617, wd_618⟩
