abbrev rm_Rd_firstRule : Room := { frames := 0, cells := 0, slots := 0, locals := 0 }
set_option maxRecDepth 100000 in
set_option maxHeartbeats 4000000 in
theorem m_Rd_firstRule (l : Launch) (D : va_G) (K : Nat → ClassId) (a0 : Int32) {r_ : Int32} (hf : f_Rd_firstRule a0 = some r_) : MI l yX6_firstRule cX6_firstRule 1 (some .int) rm_Rd_firstRule D K [.int a0] ([]) r_ ([]) := by
  refine MI_of (loc0 := [(0, .int a0)]) (by decide +kernel) rfl (Nat.le_of_ble_eq_true rfl) ?_
  intro p e s m args below meth c A cx
  unfold f_Rd_firstRule at hf
  refine r_ws (ws' := []) rfl ?_
  refine r_iload_n (pc := 0) cx dX6_firstRule_0 0 rfl ?_
  by_cases h1 : a0 = (0 : Int32)
  · replace hf := ifp h1 hf
    refine r_tin (pc := 1) (tgt := 32) cx (0 : Int32) h1 dX6_firstRule_1 (by decide) (by decide) rfl (by decide) ?_
    refine r_iconst (pc := 32) cx dX6_firstRule_32 ic_0 ?_
    have hi := inj1 hf
    exact r_iret (pc := 33) cx hi rfl dX6_firstRule_33
  · replace hf := ifn h1 hf
    by_cases h2 : a0 = (1 : Int32)
    · replace hf := ifp h2 hf
      refine r_tin (pc := 1) (tgt := 34) cx (1 : Int32) h2 dX6_firstRule_1 (by decide) (by decide) rfl (by decide) ?_
      refine r_iconst (pc := 34) cx dX6_firstRule_34 ic_1 ?_
      have hi := inj1 hf
      exact r_iret (pc := 35) cx hi rfl dX6_firstRule_35
    · replace hf := ifn h2 hf
      by_cases h3 : a0 = (2 : Int32)
      · replace hf := ifp h3 hf
        refine r_tin (pc := 1) (tgt := 36) cx (2 : Int32) h3 dX6_firstRule_1 (by decide) (by decide) rfl (by decide) ?_
        refine r_iconst (pc := 36) cx dX6_firstRule_36 ic_3 ?_
        have hi := inj1 hf
        exact r_iret (pc := 37) cx hi rfl dX6_firstRule_37
      · replace hf := ifn h3 hf
        by_cases h4 : a0 = (3 : Int32)
        · replace hf := ifp h4 hf
          refine r_tin (pc := 1) (tgt := 38) cx (3 : Int32) h4 dX6_firstRule_1 (by decide) (by decide) rfl (by decide) ?_
          refine r_bipush (pc := 38) cx dX6_firstRule_38 bp_6 ?_
          have hi := inj1 hf
          exact r_iret (pc := 40) cx hi rfl dX6_firstRule_40
        · replace hf := ifn h4 hf
          refine r_tout (pc := 1) (tgt := 41) cx dX6_firstRule_1 (by
            have nh1 := toInt_ne h1
            have mh1 : (0 : Int32).toInt = 0 := by decide
            rw [mh1] at nh1
            have nh2 := toInt_ne h2
            have mh2 : (1 : Int32).toInt = 1 := by decide
            rw [mh2] at nh2
            have nh3 := toInt_ne h3
            have mh3 : (2 : Int32).toInt = 2 := by decide
            rw [mh3] at nh3
            have nh4 := toInt_ne h4
            have mh4 : (3 : Int32).toInt = 3 := by decide
            rw [mh4] at nh4
            omega) (by decide) ?_
          refine r_bipush (pc := 41) cx dX6_firstRule_41 bp_7 ?_
          have hi := inj1 hf
          exact r_iret (pc := 43) cx hi rfl dX6_firstRule_43
theorem ys_X6_firstRule : YS yX6_firstRule cX6_firstRule 1 (some .int) 1 := ⟨⟨by decide +kernel, by decide +kernel, by decide +kernel⟩, wd_691, wd_90, wd_690⟩
abbrev rm_Rd_takeLine : Room := { frames := 1, cells := 0, slots := 0, locals := 25 }
set_option maxRecDepth 100000 in
set_option maxHeartbeats 4000000 in
theorem m_Rd_takeLine (l : Launch) (D : va_G) (K : Nat → ClassId) (q : Nat → Nat) (v : T_Rd) (g : Nat → Nat) (pr : T_Pg) (a2 : Int32) {o_v : T_Rd} {o_pr : T_Pg} (hf : f_Rd_takeLine v pr a2 = some (o_v, o_pr)) : MV l yX6_takeLine cX6_takeLine 4 (none) rm_Rd_takeLine D K [.ref (q 0), .ref (g 0), .int a2] (cl_Rd K q v ++ (cl_Pg K g pr)) (cl_Rd K q o_v ++ (cl_Pg K g o_pr)) := by
  refine MV_of (loc0 := [(0, .ref (q 0)), (1, .ref (g 0)), (2, .int a2)]) (by decide +kernel) rfl (Nat.le_of_ble_eq_true rfl) ?_
  intro p e s m args below meth c A cx
  unfold f_Rd_takeLine at hf
  refine r_ws (ws' := [((q 0), ob 5 [.ref (q 1), .int (Rd_filled v), .int (Rd_fault v), .int (Rd_faultPlace v), .ref (q 2), .ref (q 3), .ref (q 4), .ref (q 5), .int (Rd_limit v), .int (Rd_position v), .int (Rd_token v), .int (Rd_value v), .int (Rd_place v), .int (Rd_toldRules v), .int (Rd_toldData v)]), ((q 1), aB K 700 (Rd_tape v)), ((q 2), aI K 25 (Rd_words v)), ((q 3), aI K 75 (Rd_sorts v)), ((q 4), aI K 3 (Rd_parts v)), ((q 5), aI K 64 (Rd_wantedPlaces v)), ((g 0), ob 3 [.ref (g 1), .ref (g 2), .ref (g 3), .ref (g 4), .ref (g 5), .ref (g 6), .ref (g 7), .ref (g 8), .int (Pg_nameCount pr), .int (Pg_size pr), .int (Pg_lines pr)]), ((g 1), aI K 64 (Pg_code pr)), ((g 2), aI K 64 (Pg_first pr)), ((g 3), aI K 64 (Pg_second pr)), ((g 4), aI K 64 (Pg_third pr)), ((g 5), aI K 8 (Pg_rules pr)), ((g 6), aI K 32 (Pg_data pr)), ((g 7), aI K 140 (Pg_names pr)), ((g 8), aI K 140 (Pg_namedPlaces pr))]) rfl ?_
  refine r_iload_n (pc := 0) cx dX6_takeLine_0 2 rfl ?_
  refine r_bipush (pc := 1) cx dX6_takeLine_1 bp_7 ?_
  refine r_icmp_lt (pc := 3) (tgt := 35) cx dX6_takeLine_3 (by decide) (fun h1 => ?_) (fun h1 => ?_)
  · replace hf := ifp h1 hf
    refine r_iload_n (pc := 35) cx dX6_takeLine_35 2 rfl ?_
    refine r_bipush (pc := 36) cx dX6_takeLine_36 bp_6 ?_
    refine r_icmp_ne (pc := 38) (tgt := 54) cx dX6_takeLine_38 (by decide) (fun h2 => ?_) (fun h2 => ?_)
    · replace hf := ifn h2 hf
      refine r_iload_n (pc := 54) cx dX6_takeLine_54 2 rfl ?_
      refine r_iconst (pc := 55) cx dX6_takeLine_55 ic_5 ?_
      refine r_icmp_ne (pc := 56) (tgt := 82) cx dX6_takeLine_56 (by decide) (fun h3 => ?_) (fun h3 => ?_)
      · replace hf := ifn h3 hf
        refine r_aload_n (pc := 82) cx dX6_takeLine_82 0 rfl ?_
        refine r_dup (pc := 83) cx dX6_takeLine_83 rfl ?_
        refine r_get (pc := 84) cx cf_X6 0 13 rfl (by decide) rfl wd_265 dX6_takeLine_84 ?_
        refine r_iconst (pc := 87) cx dX6_takeLine_87 ic_1 ?_
        refine r_iload_n (pc := 88) cx dX6_takeLine_88 2 rfl ?_
        refine r_ishl (pc := 89) cx dX6_takeLine_89 ?_
        refine r_ior (pc := 90) cx dX6_takeLine_90 ?_
        replace hf := nm_of hf
        obtain ⟨x4, ex4, hf⟩ := hf
        refine r_nm ex4 ?_
        refine r_putI (pc := 91) (ws' := [((q 0), ob 5 [.ref (q 1), .int (Rd_filled v), .int (Rd_fault v), .int (Rd_faultPlace v), .ref (q 2), .ref (q 3), .ref (q 4), .ref (q 5), .int (Rd_limit v), .int (Rd_position v), .int (Rd_token v), .int (Rd_value v), .int (Rd_place v), .int x4, .int (Rd_toldData v)]), ((q 1), aB K 700 (Rd_tape v)), ((q 2), aI K 25 (Rd_words v)), ((q 3), aI K 75 (Rd_sorts v)), ((q 4), aI K 3 (Rd_parts v)), ((q 5), aI K 64 (Rd_wantedPlaces v)), ((g 0), ob 3 [.ref (g 1), .ref (g 2), .ref (g 3), .ref (g 4), .ref (g 5), .ref (g 6), .ref (g 7), .ref (g 8), .int (Pg_nameCount pr), .int (Pg_size pr), .int (Pg_lines pr)]), ((g 1), aI K 64 (Pg_code pr)), ((g 2), aI K 64 (Pg_first pr)), ((g 3), aI K 64 (Pg_second pr)), ((g 4), aI K 64 (Pg_third pr)), ((g 5), aI K 8 (Pg_rules pr)), ((g 6), aI K 32 (Pg_data pr)), ((g 7), aI K 140 (Pg_names pr)), ((g 8), aI K 140 (Pg_namedPlaces pr))]) cx cf_X6 0 13 rfl (by decide) (Nat.le_of_ble_eq_true rfl) rfl pfd_I wd_265 dX6_takeLine_91 rfl ?_
        refine r_iconst (pc := 94) cx dX6_takeLine_94 ic_0 ?_
        refine r_istore_n (pc := 95) (loc' := [(3, .int (0 : Int32)), (0, .ref (q 0)), (1, .ref (g 0)), (2, .int a2)]) cx dX6_takeLine_95 rfl (by decide) rfl ?_
        have hL96 : ∀ (k96_138 : (Nat → Int32) → Option (T_Rd × T_Pg)), (∀ (f7 : (Nat → Int32)), k96_138 f7 = some (o_v, o_pr) → WW p l e rm_Rd_takeLine s m args below meth c D A 4 0 0 (MQ below (QV D K A (cl_Rd K q o_v ++ (cl_Pg K g o_pr))) args s 0 0 A) ([((q 0), ob 5 [.ref (q 1), .int (Rd_filled v), .int (Rd_fault v), .int (Rd_faultPlace v), .ref (q 2), .ref (q 3), .ref (q 4), .ref (q 5), .int (Rd_limit v), .int (Rd_position v), .int (Rd_token v), .int (Rd_value v), .int (Rd_place v), .int x4, .int (Rd_toldData v)]), ((q 1), aB K 700 (Rd_tape v)), ((q 2), aI K 25 (Rd_words v)), ((q 3), aI K 75 (Rd_sorts v)), ((q 4), aI K 3 (Rd_parts v)), ((q 5), aI K 64 (Rd_wantedPlaces v)), ((g 0), ob 3 [.ref (g 1), .ref (g 2), .ref (g 3), .ref (g 4), .ref (g 5), .ref (g 6), .ref (g 7), .ref (g 8), .int (Pg_nameCount pr), .int (Pg_size pr), .int (Pg_lines pr)]), ((g 1), aI K 64 (Pg_code pr)), ((g 2), aI K 64 (Pg_first pr)), ((g 3), aI K 64 (Pg_second pr)), ((g 4), aI K 64 (Pg_third pr)), ((g 5), aI K 8 f7), ((g 6), aI K 32 (Pg_data pr)), ((g 7), aI K 140 (Pg_names pr)), ((g 8), aI K 140 (Pg_namedPlaces pr))]) ([]) ([]) 138) → ∀ (n96 : Nat) (x5 : Int32) (f6 : (Nat → Int32)), f_Rd_takeLine_L96 v a2 x4 k96_138 n96 x5 f6 = some (o_v, o_pr) → WW p l e rm_Rd_takeLine s m args below meth c D A 4 0 0 (MQ below (QV D K A (cl_Rd K q o_v ++ (cl_Pg K g o_pr))) args s 0 0 A) ([((q 0), ob 5 [.ref (q 1), .int (Rd_filled v), .int (Rd_fault v), .int (Rd_faultPlace v), .ref (q 2), .ref (q 3), .ref (q 4), .ref (q 5), .int (Rd_limit v), .int (Rd_position v), .int (Rd_token v), .int (Rd_value v), .int (Rd_place v), .int x4, .int (Rd_toldData v)]), ((q 1), aB K 700 (Rd_tape v)), ((q 2), aI K 25 (Rd_words v)), ((q 3), aI K 75 (Rd_sorts v)), ((q 4), aI K 3 (Rd_parts v)), ((q 5), aI K 64 (Rd_wantedPlaces v)), ((g 0), ob 3 [.ref (g 1), .ref (g 2), .ref (g 3), .ref (g 4), .ref (g 5), .ref (g 6), .ref (g 7), .ref (g 8), .int (Pg_nameCount pr), .int (Pg_size pr), .int (Pg_lines pr)]), ((g 1), aI K 64 (Pg_code pr)), ((g 2), aI K 64 (Pg_first pr)), ((g 3), aI K 64 (Pg_second pr)), ((g 4), aI K 64 (Pg_third pr)), ((g 5), aI K 8 f6), ((g 6), aI K 32 (Pg_data pr)), ((g 7), aI K 140 (Pg_names pr)), ((g 8), aI K 140 (Pg_namedPlaces pr))]) ([(0, .ref (q 0)), (1, .ref (g 0)), (2, .int a2), (3, .int x5)]) ([]) 96 := by
          clear hf
          intro k96_138 hk96_138 n96
          induction n96 with
          | zero => intro x5 f6 hf; exact (nomatch (show (none : Option (T_Rd × T_Pg)) = some _ from hf))
          | succ n96 ih96 =>
            intro x5 f6 hf
            rw [f_Rd_takeLine_L96] at hf
            refine r_iload_n (pc := 96) cx dX6_takeLine_96 3 rfl ?_
            refine r_iconst (pc := 97) cx dX6_takeLine_97 ic_3 ?_
            refine r_icmp_ge (pc := 98) (tgt := 138) cx dX6_takeLine_98 (by decide) (fun h8 => ?_) (fun h8 => ?_)
            · replace hf := ifp h8 hf
              refine r_loc (loc' := []) [] rfl ?_
              exact hk96_138 _ hf
            · replace hf := ifn h8 hf
              refine r_aload_n (pc := 101) cx dX6_takeLine_101 0 rfl ?_
              refine r_iload_n (pc := 102) cx dX6_takeLine_102 2 rfl ?_
              refine r_iload_n (pc := 103) cx dX6_takeLine_103 3 rfl ?_
              replace hf := bd_of hf
              obtain ⟨r9, hc10, hf⟩ := hf
              refine r_Vi (pc := 104) (ws' := [((q 0), ob 5 [.ref (q 1), .int (Rd_filled v), .int (Rd_fault v), .int (Rd_faultPlace v), .ref (q 2), .ref (q 3), .ref (q 4), .ref (q 5), .int (Rd_limit v), .int (Rd_position v), .int (Rd_token v), .int (Rd_value v), .int (Rd_place v), .int x4, .int (Rd_toldData v)]), ((q 1), aB K 700 (Rd_tape v)), ((q 2), aI K 25 (Rd_words v)), ((q 3), aI K 75 (Rd_sorts v)), ((q 4), aI K 3 (Rd_parts v)), ((q 5), aI K 64 (Rd_wantedPlaces v)), ((g 0), ob 3 [.ref (g 1), .ref (g 2), .ref (g 3), .ref (g 4), .ref (g 5), .ref (g 6), .ref (g 7), .ref (g 8), .int (Pg_nameCount pr), .int (Pg_size pr), .int (Pg_lines pr)]), ((g 1), aI K 64 (Pg_code pr)), ((g 2), aI K 64 (Pg_first pr)), ((g 3), aI K 64 (Pg_second pr)), ((g 4), aI K 64 (Pg_third pr)), ((g 5), aI K 8 f6), ((g 6), aI K 32 (Pg_data pr)), ((g 7), aI K 140 (Pg_names pr)), ((g 8), aI K 140 (Pg_namedPlaces pr))]) (wc := [((q 0), ob 5 [.ref (q 1), .int (Rd_filled v), .int (Rd_fault v), .int (Rd_faultPlace v), .ref (q 2), .ref (q 3), .ref (q 4), .ref (q 5), .int (Rd_limit v), .int (Rd_position v), .int (Rd_token v), .int (Rd_value v), .int (Rd_place v), .int x4, .int (Rd_toldData v)]), ((q 1), aB K 700 (Rd_tape v)), ((q 2), aI K 25 (Rd_words v)), ((q 3), aI K 75 (Rd_sorts v)), ((q 4), aI K 3 (Rd_parts v)), ((q 5), aI K 64 (Rd_wantedPlaces v))]) (nn := 6) cx [.int a2, .int x5] [] (m_Rd_sortOf l D K q ((Rd_tape v), (Rd_filled v), (Rd_fault v), (Rd_faultPlace v), (Rd_words v), (Rd_sorts v), (Rd_parts v), (Rd_wantedPlaces v), (Rd_limit v), (Rd_position v), (Rd_token v), (Rd_value v), (Rd_place v), x4, (Rd_toldData v)) a2 x5 hc10) (by (try simp only [cl_Rd, Rd_tape_mk, Rd_filled_mk, Rd_fault_mk, Rd_faultPlace_mk, Rd_words_mk, Rd_sorts_mk, Rd_parts_mk, Rd_wantedPlaces_mk, Rd_limit_mk, Rd_position_mk, Rd_token_mk, Rd_value_mk, Rd_place_mk, Rd_toldRules_mk, Rd_toldData_mk, List.cons_append, List.nil_append, List.append_nil]) <;> rfl) yv_X6_sortOf wd_653 ⟨rfl, rfl⟩ (by decide) (fr_s (j := 0) rfl rfl rfl (fr_s (j := 1) rfl rfl rfl (fr_s (j := 2) rfl rfl rfl (fr_s (j := 3) rfl rfl rfl (fr_s (j := 4) rfl rfl rfl (fr_s (j := 5) rfl rfl rfl (fr_k (fr_k (fr_k (fr_k (fr_k (fr_k (fr_k (fr_k (fr_k (fr_n)))))))))))))))) rfl (by decide) 0 rfl rfl rfl (Nat.le_of_ble_eq_true rfl) dX6_takeLine_104 ?_
              refine r_bipush (pc := 107) cx dX6_takeLine_107 bp_32 ?_
              refine r_icmp_eq (pc := 109) (tgt := 132) cx dX6_takeLine_109 (by decide) (fun h11 => ?_) (fun h11 => ?_)
              · replace hf := ifp h11 hf
                replace hf := nm_of hf
                obtain ⟨x12, ex12, hf⟩ := hf
                refine r_iinc (pc := 132) (loc' := [(3, .int x12), (0, .ref (q 0)), (1, .ref (g 0)), (2, .int a2)]) (v := x12) cx dX6_takeLine_132 3 rfl ((congrArg (fun z => x5 + z) ic_1).trans ex12.symm) (by decide) rfl ?_
                refine r_goto (pc := 135) (tgt := 96) cx dX6_takeLine_135 (by decide) ?_
                refine r_loc (loc' := [(0, .ref (q 0)), (1, .ref (g 0)), (2, .int a2), (3, .int x12)]) [1, 2, 3, 0] rfl ?_
                exact ih96 _ _ hf
              · replace hf := ifn h11 hf
                refine r_aload_n (pc := 112) cx dX6_takeLine_112 1 rfl ?_
                refine r_get (pc := 113) cx cf_X4 6 4 rfl (by decide) rfl wd_146 dX6_takeLine_113 ?_
                refine r_iload_n (pc := 116) cx dX6_takeLine_116 2 rfl ?_
                replace hf := bd_of hf
                obtain ⟨r13, hc14, hf⟩ := hf
                refine r_Si (pc := 117) (ws' := [((q 0), ob 5 [.ref (q 1), .int (Rd_filled v), .int (Rd_fault v), .int (Rd_faultPlace v), .ref (q 2), .ref (q 3), .ref (q 4), .ref (q 5), .int (Rd_limit v), .int (Rd_position v), .int (Rd_token v), .int (Rd_value v), .int (Rd_place v), .int x4, .int (Rd_toldData v)]), ((q 1), aB K 700 (Rd_tape v)), ((q 2), aI K 25 (Rd_words v)), ((q 3), aI K 75 (Rd_sorts v)), ((q 4), aI K 3 (Rd_parts v)), ((q 5), aI K 64 (Rd_wantedPlaces v)), ((g 0), ob 3 [.ref (g 1), .ref (g 2), .ref (g 3), .ref (g 4), .ref (g 5), .ref (g 6), .ref (g 7), .ref (g 8), .int (Pg_nameCount pr), .int (Pg_size pr), .int (Pg_lines pr)]), ((g 1), aI K 64 (Pg_code pr)), ((g 2), aI K 64 (Pg_first pr)), ((g 3), aI K 64 (Pg_second pr)), ((g 4), aI K 64 (Pg_third pr)), ((g 5), aI K 8 f6), ((g 6), aI K 32 (Pg_data pr)), ((g 7), aI K 140 (Pg_names pr)), ((g 8), aI K 140 (Pg_namedPlaces pr))]) (wc := []) (nn := 0) cx [.int a2] [.ref (g 5)] (m_Rd_firstRule l D K a2 hc14) rfl ys_X6_firstRule wd_689 ⟨rfl, rfl⟩ (by decide) (fr_k (fr_k (fr_k (fr_k (fr_k (fr_k (fr_k (fr_k (fr_k (fr_k (fr_k (fr_k (fr_k (fr_k (fr_k (fr_n)))))))))))))))) rfl (by decide) rfl (Nat.le_of_ble_eq_true rfl) dX6_takeLine_117 ?_
                refine r_iload_n (pc := 120) cx dX6_takeLine_120 3 rfl ?_
                refine r_iadd (pc := 121) cx dX6_takeLine_121 ?_
                refine r_bipush (pc := 122) cx dX6_takeLine_122 bp_7 ?_
                refine r_iand (pc := 124) cx dX6_takeLine_124 ?_
                refine r_aload_n (pc := 125) cx dX6_takeLine_125 0 rfl ?_
                refine r_get (pc := 126) cx cf_X6 0 6 rfl (by decide) rfl wd_258 dX6_takeLine_126 ?_
                refine r_iload_n (pc := 129) cx dX6_takeLine_129 3 rfl ?_
                replace hf := chk_of hf
                obtain ⟨h15, hf⟩ := hf
                refine r_iald (pc := 130) cx 4 rfl h15 dX6_takeLine_130 ?_
                replace hf := nm_of hf
                obtain ⟨x16, ex16, hf⟩ := hf
                refine r_nm ex16 ?_
                replace hf := nm_of hf
                obtain ⟨f17, ef17, hf⟩ := hf
                refine r_iast (pc := 131) (ws' := [((q 0), ob 5 [.ref (q 1), .int (Rd_filled v), .int (Rd_fault v), .int (Rd_faultPlace v), .ref (q 2), .ref (q 3), .ref (q 4), .ref (q 5), .int (Rd_limit v), .int (Rd_position v), .int (Rd_token v), .int (Rd_value v), .int (Rd_place v), .int x4, .int (Rd_toldData v)]), ((q 1), aB K 700 (Rd_tape v)), ((q 2), aI K 25 (Rd_words v)), ((q 3), aI K 75 (Rd_sorts v)), ((q 4), aI K 3 (Rd_parts v)), ((q 5), aI K 64 (Rd_wantedPlaces v)), ((g 0), ob 3 [.ref (g 1), .ref (g 2), .ref (g 3), .ref (g 4), .ref (g 5), .ref (g 6), .ref (g 7), .ref (g 8), .int (Pg_nameCount pr), .int (Pg_size pr), .int (Pg_lines pr)]), ((g 1), aI K 64 (Pg_code pr)), ((g 2), aI K 64 (Pg_first pr)), ((g 3), aI K 64 (Pg_second pr)), ((g 4), aI K 64 (Pg_third pr)), ((g 5), aI K 8 f17), ((g 6), aI K 32 (Pg_data pr)), ((g 7), aI K 140 (Pg_names pr)), ((g 8), aI K 140 (Pg_namedPlaces pr))]) cx 11 rfl (ix_and7 _) dX6_takeLine_131 ef17 rfl ?_
                replace hf := nm_of hf
                obtain ⟨x18, ex18, hf⟩ := hf
                refine r_iinc (pc := 132) (loc' := [(3, .int x18), (0, .ref (q 0)), (1, .ref (g 0)), (2, .int a2)]) (v := x18) cx dX6_takeLine_132 3 rfl ((congrArg (fun z => x5 + z) ic_1).trans ex18.symm) (by decide) rfl ?_
                refine r_goto (pc := 135) (tgt := 96) cx dX6_takeLine_135 (by decide) ?_
                refine r_loc (loc' := [(0, .ref (q 0)), (1, .ref (g 0)), (2, .int a2), (3, .int x18)]) [1, 2, 3, 0] rfl ?_
                exact ih96 _ _ hf
        refine r_loc (loc' := [(0, .ref (q 0)), (1, .ref (g 0)), (2, .int a2), (3, .int (0 : Int32))]) [1, 2, 3, 0] rfl ?_
        refine hL96 _ (fun f7 hf => ?_) _ _ _ hf
        have hi := inj2 hf
        exact r_vret (pc := 138) cx (by rw [← hi.1, ← hi.2]; (try simp only [cl_Rd, Rd_tape_mk, Rd_filled_mk, Rd_fault_mk, Rd_faultPlace_mk, Rd_words_mk, Rd_sorts_mk, Rd_parts_mk, Rd_wantedPlaces_mk, Rd_limit_mk, Rd_position_mk, Rd_token_mk, Rd_value_mk, Rd_place_mk, Rd_toldRules_mk, Rd_toldData_mk, cl_Pg, Pg_code_mk, Pg_first_mk, Pg_second_mk, Pg_third_mk, Pg_rules_mk, Pg_data_mk, Pg_names_mk, Pg_namedPlaces_mk, Pg_nameCount_mk, Pg_size_mk, Pg_lines_mk, List.cons_append, List.nil_append, List.append_nil]) <;> rfl) dX6_takeLine_138
      · replace hf := ifp h3 hf
        refine r_aload_n (pc := 59) cx dX6_takeLine_59 1 rfl ?_
        refine r_get (pc := 60) cx cf_X4 6 5 rfl (by decide) rfl wd_151 dX6_takeLine_60 ?_
        refine r_aload_n (pc := 63) cx dX6_takeLine_63 0 rfl ?_
        refine r_get (pc := 64) cx cf_X6 0 6 rfl (by decide) rfl wd_258 dX6_takeLine_64 ?_
        refine r_iconst (pc := 67) cx dX6_takeLine_67 ic_0 ?_
        refine r_iald (pc := 68) cx 4 rfl (by decide) dX6_takeLine_68 ?_
        refine r_bipush (pc := 69) cx dX6_takeLine_69 bp_31 ?_
        refine r_iand (pc := 71) cx dX6_takeLine_71 ?_
        refine r_aload_n (pc := 72) cx dX6_takeLine_72 0 rfl ?_
        refine r_get (pc := 73) cx cf_X6 0 6 rfl (by decide) rfl wd_258 dX6_takeLine_73 ?_
        refine r_iconst (pc := 76) cx dX6_takeLine_76 ic_1 ?_
        refine r_iald (pc := 77) cx 4 rfl (by decide) dX6_takeLine_77 ?_
        replace hf := nm_of hf
        obtain ⟨x19, ex19, hf⟩ := hf
        refine r_nm ex19 ?_
        replace hf := nm_of hf
        obtain ⟨f20, ef20, hf⟩ := hf
        refine r_iast (pc := 78) (ws' := [((q 0), ob 5 [.ref (q 1), .int (Rd_filled v), .int (Rd_fault v), .int (Rd_faultPlace v), .ref (q 2), .ref (q 3), .ref (q 4), .ref (q 5), .int (Rd_limit v), .int (Rd_position v), .int (Rd_token v), .int (Rd_value v), .int (Rd_place v), .int (Rd_toldRules v), .int (Rd_toldData v)]), ((q 1), aB K 700 (Rd_tape v)), ((q 2), aI K 25 (Rd_words v)), ((q 3), aI K 75 (Rd_sorts v)), ((q 4), aI K 3 (Rd_parts v)), ((q 5), aI K 64 (Rd_wantedPlaces v)), ((g 0), ob 3 [.ref (g 1), .ref (g 2), .ref (g 3), .ref (g 4), .ref (g 5), .ref (g 6), .ref (g 7), .ref (g 8), .int (Pg_nameCount pr), .int (Pg_size pr), .int (Pg_lines pr)]), ((g 1), aI K 64 (Pg_code pr)), ((g 2), aI K 64 (Pg_first pr)), ((g 3), aI K 64 (Pg_second pr)), ((g 4), aI K 64 (Pg_third pr)), ((g 5), aI K 8 (Pg_rules pr)), ((g 6), aI K 32 f20), ((g 7), aI K 140 (Pg_names pr)), ((g 8), aI K 140 (Pg_namedPlaces pr))]) cx 12 rfl (ix_and31 _) dX6_takeLine_78 ef20 rfl ?_
        refine r_goto (pc := 79) (tgt := 138) cx dX6_takeLine_79 (by decide) ?_
        have hi := inj2 hf
        exact r_vret (pc := 138) cx (by rw [← hi.1, ← hi.2]; (try simp only [cl_Rd, Rd_tape_mk, Rd_filled_mk, Rd_fault_mk, Rd_faultPlace_mk, Rd_words_mk, Rd_sorts_mk, Rd_parts_mk, Rd_wantedPlaces_mk, Rd_limit_mk, Rd_position_mk, Rd_token_mk, Rd_value_mk, Rd_place_mk, Rd_toldRules_mk, Rd_toldData_mk, cl_Pg, Pg_code_mk, Pg_first_mk, Pg_second_mk, Pg_third_mk, Pg_rules_mk, Pg_data_mk, Pg_names_mk, Pg_namedPlaces_mk, Pg_nameCount_mk, Pg_size_mk, Pg_lines_mk, List.cons_append, List.nil_append, List.append_nil]) <;> rfl) dX6_takeLine_138
    · replace hf := ifp h2 hf
      refine r_aload_n (pc := 41) cx dX6_takeLine_41 1 rfl ?_
      refine r_aload_n (pc := 42) cx dX6_takeLine_42 0 rfl ?_
      refine r_get (pc := 43) cx cf_X6 0 6 rfl (by decide) rfl wd_258 dX6_takeLine_43 ?_
      refine r_iconst (pc := 46) cx dX6_takeLine_46 ic_0 ?_
      refine r_iald (pc := 47) cx 4 rfl (by decide) dX6_takeLine_47 ?_
      replace hf := bd_of hf
      obtain ⟨v21, hc22, hf⟩ := hf
      refine r_Vv (pc := 48) (ws' := [((q 0), ob 5 [.ref (q 1), .int (Rd_filled v), .int (Rd_fault v), .int (Rd_faultPlace v), .ref (q 2), .ref (q 3), .ref (q 4), .ref (q 5), .int (Rd_limit v), .int (Rd_position v), .int (Rd_token v), .int (Rd_value v), .int (Rd_place v), .int (Rd_toldRules v), .int (Rd_toldData v)]), ((q 1), aB K 700 (Rd_tape v)), ((q 2), aI K 25 (Rd_words v)), ((q 3), aI K 75 (Rd_sorts v)), ((q 4), aI K 3 (Rd_parts v)), ((q 5), aI K 64 (Rd_wantedPlaces v)), ((g 0), ob 3 [.ref (g 1), .ref (g 2), .ref (g 3), .ref (g 4), .ref (g 5), .ref (g 6), .ref (g 7), .ref (g 8), .int (Pg_nameCount v21), .int (Pg_size v21), .int (Pg_lines v21)]), ((g 1), aI K 64 (Pg_code v21)), ((g 2), aI K 64 (Pg_first v21)), ((g 3), aI K 64 (Pg_second v21)), ((g 4), aI K 64 (Pg_third v21)), ((g 5), aI K 8 (Pg_rules v21)), ((g 6), aI K 32 (Pg_data v21)), ((g 7), aI K 140 (Pg_names v21)), ((g 8), aI K 140 (Pg_namedPlaces v21))]) (wc := [((g 0), ob 3 [.ref (g 1), .ref (g 2), .ref (g 3), .ref (g 4), .ref (g 5), .ref (g 6), .ref (g 7), .ref (g 8), .int (Pg_nameCount pr), .int (Pg_size pr), .int (Pg_lines pr)]), ((g 1), aI K 64 (Pg_code pr)), ((g 2), aI K 64 (Pg_first pr)), ((g 3), aI K 64 (Pg_second pr)), ((g 4), aI K 64 (Pg_third pr)), ((g 5), aI K 8 (Pg_rules pr)), ((g 6), aI K 32 (Pg_data pr)), ((g 7), aI K 140 (Pg_names pr)), ((g 8), aI K 140 (Pg_namedPlaces pr))]) (nn := 9) cx [.int ((Rd_parts v) (0 : Int32).toNatClampNeg)] [] (m_Pg_nameNext l D K g pr ((Rd_parts v) (0 : Int32).toNatClampNeg) hc22) rfl yv_X4_nameNext wd_685 ⟨rfl, rfl⟩ (by decide) (fr_k (fr_k (fr_k (fr_k (fr_k (fr_k (fr_s (j := 0) rfl rfl rfl (fr_s (j := 1) rfl rfl rfl (fr_s (j := 2) rfl rfl rfl (fr_s (j := 3) rfl rfl rfl (fr_s (j := 4) rfl rfl rfl (fr_s (j := 5) rfl rfl rfl (fr_s (j := 6) rfl rfl rfl (fr_s (j := 7) rfl rfl rfl (fr_s (j := 8) rfl rfl rfl (fr_n)))))))))))))))) rfl (by decide) 6 rfl rfl rfl (Nat.le_of_ble_eq_true rfl) dX6_takeLine_48 ?_
      refine r_goto (pc := 51) (tgt := 138) cx dX6_takeLine_51 (by decide) ?_
      have hi := inj2 hf
      exact r_vret (pc := 138) cx (by rw [← hi.1, ← hi.2]; rfl) dX6_takeLine_138
  · replace hf := ifn h1 hf
    refine r_aload_n (pc := 6) cx dX6_takeLine_6 1 rfl ?_
    refine r_iload_n (pc := 7) cx dX6_takeLine_7 2 rfl ?_
    refine r_bipush (pc := 8) cx dX6_takeLine_8 bp_7 ?_
    refine r_isub (pc := 10) cx dX6_takeLine_10 ?_
    refine r_aload_n (pc := 11) cx dX6_takeLine_11 0 rfl ?_
    refine r_get (pc := 12) cx cf_X6 0 6 rfl (by decide) rfl wd_258 dX6_takeLine_12 ?_
    refine r_iconst (pc := 15) cx dX6_takeLine_15 ic_0 ?_
    refine r_iald (pc := 16) cx 4 rfl (by decide) dX6_takeLine_16 ?_
    refine r_aload_n (pc := 17) cx dX6_takeLine_17 0 rfl ?_
    refine r_get (pc := 18) cx cf_X6 0 6 rfl (by decide) rfl wd_258 dX6_takeLine_18 ?_
    refine r_iconst (pc := 21) cx dX6_takeLine_21 ic_1 ?_
    refine r_iald (pc := 22) cx 4 rfl (by decide) dX6_takeLine_22 ?_
    refine r_aload_n (pc := 23) cx dX6_takeLine_23 0 rfl ?_
    refine r_get (pc := 24) cx cf_X6 0 6 rfl (by decide) rfl wd_258 dX6_takeLine_24 ?_
    refine r_iconst (pc := 27) cx dX6_takeLine_27 ic_2 ?_
    refine r_iald (pc := 28) cx 4 rfl (by decide) dX6_takeLine_28 ?_
    replace hf := bd_of hf
    obtain ⟨v23, hc24, hf⟩ := hf
    refine r_Vv (pc := 29) (ws' := [((q 0), ob 5 [.ref (q 1), .int (Rd_filled v), .int (Rd_fault v), .int (Rd_faultPlace v), .ref (q 2), .ref (q 3), .ref (q 4), .ref (q 5), .int (Rd_limit v), .int (Rd_position v), .int (Rd_token v), .int (Rd_value v), .int (Rd_place v), .int (Rd_toldRules v), .int (Rd_toldData v)]), ((q 1), aB K 700 (Rd_tape v)), ((q 2), aI K 25 (Rd_words v)), ((q 3), aI K 75 (Rd_sorts v)), ((q 4), aI K 3 (Rd_parts v)), ((q 5), aI K 64 (Rd_wantedPlaces v)), ((g 0), ob 3 [.ref (g 1), .ref (g 2), .ref (g 3), .ref (g 4), .ref (g 5), .ref (g 6), .ref (g 7), .ref (g 8), .int (Pg_nameCount v23), .int (Pg_size v23), .int (Pg_lines v23)]), ((g 1), aI K 64 (Pg_code v23)), ((g 2), aI K 64 (Pg_first v23)), ((g 3), aI K 64 (Pg_second v23)), ((g 4), aI K 64 (Pg_third v23)), ((g 5), aI K 8 (Pg_rules v23)), ((g 6), aI K 32 (Pg_data v23)), ((g 7), aI K 140 (Pg_names v23)), ((g 8), aI K 140 (Pg_namedPlaces v23))]) (wc := [((g 0), ob 3 [.ref (g 1), .ref (g 2), .ref (g 3), .ref (g 4), .ref (g 5), .ref (g 6), .ref (g 7), .ref (g 8), .int (Pg_nameCount pr), .int (Pg_size pr), .int (Pg_lines pr)]), ((g 1), aI K 64 (Pg_code pr)), ((g 2), aI K 64 (Pg_first pr)), ((g 3), aI K 64 (Pg_second pr)), ((g 4), aI K 64 (Pg_third pr)), ((g 5), aI K 8 (Pg_rules pr)), ((g 6), aI K 32 (Pg_data pr)), ((g 7), aI K 140 (Pg_names pr)), ((g 8), aI K 140 (Pg_namedPlaces pr))]) (nn := 9) cx [.int (a2 - (7 : Int32)), .int ((Rd_parts v) (0 : Int32).toNatClampNeg), .int ((Rd_parts v) (1 : Int32).toNatClampNeg), .int ((Rd_parts v) (2 : Int32).toNatClampNeg)] [] (m_Pg_append l D K g pr (a2 - (7 : Int32)) ((Rd_parts v) (0 : Int32).toNatClampNeg) ((Rd_parts v) (1 : Int32).toNatClampNeg) ((Rd_parts v) (2 : Int32).toNatClampNeg) hc24) rfl yv_X4_append wd_681 ⟨rfl, rfl⟩ (by decide) (fr_k (fr_k (fr_k (fr_k (fr_k (fr_k (fr_s (j := 0) rfl rfl rfl (fr_s (j := 1) rfl rfl rfl (fr_s (j := 2) rfl rfl rfl (fr_s (j := 3) rfl rfl rfl (fr_s (j := 4) rfl rfl rfl (fr_s (j := 5) rfl rfl rfl (fr_s (j := 6) rfl rfl rfl (fr_s (j := 7) rfl rfl rfl (fr_s (j := 8) rfl rfl rfl (fr_n)))))))))))))))) rfl (by decide) 6 rfl rfl rfl (Nat.le_of_ble_eq_true rfl) dX6_takeLine_29 ?_
    refine r_goto (pc := 32) (tgt := 138) cx dX6_takeLine_32 (by decide) ?_
    have hi := inj2 hf
    exact r_vret (pc := 138) cx (by rw [← hi.1, ← hi.2]; rfl) dX6_takeLine_138
theorem yv_X6_takeLine : YV yX6_takeLine cX6_takeLine 4 (none) 2 := ⟨⟨by decide +kernel, by decide +kernel, by decide +kernel⟩, wd_680, wd_90, wd_679, wd_12⟩
abbrev rm_Rd_readLine : Room := { frames := 3, cells := 0, slots := 0, locals := 67 }
set_option maxRecDepth 100000 in
set_option maxHeartbeats 4000000 in
theorem m_Rd_readLine (l : Launch) (D : va_G) (K : Nat → ClassId) (q : Nat → Nat) (v : T_Rd) (g : Nat → Nat) (pr : T_Pg) {o_v : T_Rd} {o_pr : T_Pg} (hf : f_Rd_readLine v pr = some (o_v, o_pr)) : MV l yX6_readLine cX6_readLine 5 (none) rm_Rd_readLine D K [.ref (q 0), .ref (g 0)] (cl_Rd K q v ++ (cl_Pg K g pr)) (cl_Rd K q o_v ++ (cl_Pg K g o_pr)) := by
  refine MV_of (loc0 := [(0, .ref (q 0)), (1, .ref (g 0))]) (by decide +kernel) rfl (Nat.le_of_ble_eq_true rfl) ?_
  intro p e s m args below meth c A cx
  unfold f_Rd_readLine at hf
  refine r_ws (ws' := [((q 0), ob 5 [.ref (q 1), .int (Rd_filled v), .int (Rd_fault v), .int (Rd_faultPlace v), .ref (q 2), .ref (q 3), .ref (q 4), .ref (q 5), .int (Rd_limit v), .int (Rd_position v), .int (Rd_token v), .int (Rd_value v), .int (Rd_place v), .int (Rd_toldRules v), .int (Rd_toldData v)]), ((q 1), aB K 700 (Rd_tape v)), ((q 2), aI K 25 (Rd_words v)), ((q 3), aI K 75 (Rd_sorts v)), ((q 4), aI K 3 (Rd_parts v)), ((q 5), aI K 64 (Rd_wantedPlaces v)), ((g 0), ob 3 [.ref (g 1), .ref (g 2), .ref (g 3), .ref (g 4), .ref (g 5), .ref (g 6), .ref (g 7), .ref (g 8), .int (Pg_nameCount pr), .int (Pg_size pr), .int (Pg_lines pr)]), ((g 1), aI K 64 (Pg_code pr)), ((g 2), aI K 64 (Pg_first pr)), ((g 3), aI K 64 (Pg_second pr)), ((g 4), aI K 64 (Pg_third pr)), ((g 5), aI K 8 (Pg_rules pr)), ((g 6), aI K 32 (Pg_data pr)), ((g 7), aI K 140 (Pg_names pr)), ((g 8), aI K 140 (Pg_namedPlaces pr))]) rfl ?_
  refine r_aload_n (pc := 0) cx dX6_readLine_0 0 rfl ?_
  refine r_get (pc := 1) cx cf_X6 0 10 rfl (by decide) rfl wd_262 dX6_readLine_1 ?_
  refine r_iconst (pc := 4) cx dX6_readLine_4 ic_1 ?_
  replace hf := nm_of hf
  obtain ⟨J2, eJ2, hf⟩ := hf
  have hJ2 : ∀ (y1 : Int32), J2 y1 = some (o_v, o_pr) → WW p l e rm_Rd_readLine s m args below meth c D A 5 0 0 (MQ below (QV D K A (cl_Rd K q o_v ++ (cl_Pg K g o_pr))) args s 0 0 A) ([((q 0), ob 5 [.ref (q 1), .int (Rd_filled v), .int (Rd_fault v), .int (Rd_faultPlace v), .ref (q 2), .ref (q 3), .ref (q 4), .ref (q 5), .int (Rd_limit v), .int (Rd_position v), .int (Rd_token v), .int (Rd_value v), .int (Rd_place v), .int (Rd_toldRules v), .int (Rd_toldData v)]), ((q 1), aB K 700 (Rd_tape v)), ((q 2), aI K 25 (Rd_words v)), ((q 3), aI K 75 (Rd_sorts v)), ((q 4), aI K 3 (Rd_parts v)), ((q 5), aI K 64 (Rd_wantedPlaces v)), ((g 0), ob 3 [.ref (g 1), .ref (g 2), .ref (g 3), .ref (g 4), .ref (g 5), .ref (g 6), .ref (g 7), .ref (g 8), .int (Pg_nameCount pr), .int (Pg_size pr), .int (Pg_lines pr)]), ((g 1), aI K 64 (Pg_code pr)), ((g 2), aI K 64 (Pg_first pr)), ((g 3), aI K 64 (Pg_second pr)), ((g 4), aI K 64 (Pg_third pr)), ((g 5), aI K 8 (Pg_rules pr)), ((g 6), aI K 32 (Pg_data pr)), ((g 7), aI K 140 (Pg_names pr)), ((g 8), aI K 140 (Pg_namedPlaces pr))]) ([(0, .ref (q 0)), (1, .ref (g 0))]) ([.int y1]) 20 := by
    clear hf
    intro y1 hf
    rw [eJ2] at hf
    refine r_istore_n (pc := 20) (loc' := [(2, .int y1), (0, .ref (q 0)), (1, .ref (g 0))]) cx dX6_readLine_20 rfl (by decide) rfl ?_
    refine r_iload_n (pc := 21) cx dX6_readLine_21 0 rfl ?_
    refine r_iconst (pc := 22) cx dX6_readLine_22 ic_m1 ?_
    replace hf := nm_of hf
    obtain ⟨J4, eJ4, hf⟩ := hf
    have hJ4 : ∀ (v3 : T_Rd), J4 v3 = some (o_v, o_pr) → WW p l e rm_Rd_readLine s m args below meth c D A 5 0 0 (MQ below (QV D K A (cl_Rd K q o_v ++ (cl_Pg K g o_pr))) args s 0 0 A) ([((q 0), ob 5 [.ref (q 1), .int (Rd_filled v3), .int (Rd_fault v3), .int (Rd_faultPlace v3), .ref (q 2), .ref (q 3), .ref (q 4), .ref (q 5), .int (Rd_limit v3), .int (Rd_position v3), .int (Rd_token v3), .int (Rd_value v3), .int (Rd_place v3), .int (Rd_toldRules v3), .int (Rd_toldData v3)]), ((q 1), aB K 700 (Rd_tape v3)), ((q 2), aI K 25 (Rd_words v3)), ((q 3), aI K 75 (Rd_sorts v3)), ((q 4), aI K 3 (Rd_parts v3)), ((q 5), aI K 64 (Rd_wantedPlaces v3)), ((g 0), ob 3 [.ref (g 1), .ref (g 2), .ref (g 3), .ref (g 4), .ref (g 5), .ref (g 6), .ref (g 7), .ref (g 8), .int (Pg_nameCount pr), .int (Pg_size pr), .int (Pg_lines pr)]), ((g 1), aI K 64 (Pg_code pr)), ((g 2), aI K 64 (Pg_first pr)), ((g 3), aI K 64 (Pg_second pr)), ((g 4), aI K 64 (Pg_third pr)), ((g 5), aI K 8 (Pg_rules pr)), ((g 6), aI K 32 (Pg_data pr)), ((g 7), aI K 140 (Pg_names pr)), ((g 8), aI K 140 (Pg_namedPlaces pr))]) ([(0, .ref (q 0)), (1, .ref (g 0)), (2, .int y1)]) ([]) 86 := by
      clear hf
      intro v3 hf
      rw [eJ4] at hf
      refine r_aload_n (pc := 86) cx dX6_readLine_86 0 rfl ?_
      refine r_get (pc := 87) cx cf_X6 0 6 rfl (by decide) rfl wd_258 dX6_readLine_87 ?_
      refine r_iconst (pc := 90) cx dX6_readLine_90 ic_0 ?_
      refine r_iconst (pc := 91) cx dX6_readLine_91 ic_0 ?_
      replace hf := nm_of hf
      obtain ⟨f5, ef5, hf⟩ := hf
      refine r_iast (pc := 92) (ws' := [((q 0), ob 5 [.ref (q 1), .int (Rd_filled v3), .int (Rd_fault v3), .int (Rd_faultPlace v3), .ref (q 2), .ref (q 3), .ref (q 4), .ref (q 5), .int (Rd_limit v3), .int (Rd_position v3), .int (Rd_token v3), .int (Rd_value v3), .int (Rd_place v3), .int (Rd_toldRules v3), .int (Rd_toldData v3)]), ((q 1), aB K 700 (Rd_tape v3)), ((q 2), aI K 25 (Rd_words v3)), ((q 3), aI K 75 (Rd_sorts v3)), ((q 4), aI K 3 f5), ((q 5), aI K 64 (Rd_wantedPlaces v3)), ((g 0), ob 3 [.ref (g 1), .ref (g 2), .ref (g 3), .ref (g 4), .ref (g 5), .ref (g 6), .ref (g 7), .ref (g 8), .int (Pg_nameCount pr), .int (Pg_size pr), .int (Pg_lines pr)]), ((g 1), aI K 64 (Pg_code pr)), ((g 2), aI K 64 (Pg_first pr)), ((g 3), aI K 64 (Pg_second pr)), ((g 4), aI K 64 (Pg_third pr)), ((g 5), aI K 8 (Pg_rules pr)), ((g 6), aI K 32 (Pg_data pr)), ((g 7), aI K 140 (Pg_names pr)), ((g 8), aI K 140 (Pg_namedPlaces pr))]) cx 4 rfl (by decide) dX6_readLine_92 ef5 rfl ?_
      refine r_aload_n (pc := 93) cx dX6_readLine_93 0 rfl ?_
      refine r_get (pc := 94) cx cf_X6 0 6 rfl (by decide) rfl wd_258 dX6_readLine_94 ?_
      refine r_iconst (pc := 97) cx dX6_readLine_97 ic_1 ?_
      refine r_iconst (pc := 98) cx dX6_readLine_98 ic_0 ?_
      replace hf := nm_of hf
      obtain ⟨f6, ef6, hf⟩ := hf
      refine r_iast (pc := 99) (ws' := [((q 0), ob 5 [.ref (q 1), .int (Rd_filled v3), .int (Rd_fault v3), .int (Rd_faultPlace v3), .ref (q 2), .ref (q 3), .ref (q 4), .ref (q 5), .int (Rd_limit v3), .int (Rd_position v3), .int (Rd_token v3), .int (Rd_value v3), .int (Rd_place v3), .int (Rd_toldRules v3), .int (Rd_toldData v3)]), ((q 1), aB K 700 (Rd_tape v3)), ((q 2), aI K 25 (Rd_words v3)), ((q 3), aI K 75 (Rd_sorts v3)), ((q 4), aI K 3 f6), ((q 5), aI K 64 (Rd_wantedPlaces v3)), ((g 0), ob 3 [.ref (g 1), .ref (g 2), .ref (g 3), .ref (g 4), .ref (g 5), .ref (g 6), .ref (g 7), .ref (g 8), .int (Pg_nameCount pr), .int (Pg_size pr), .int (Pg_lines pr)]), ((g 1), aI K 64 (Pg_code pr)), ((g 2), aI K 64 (Pg_first pr)), ((g 3), aI K 64 (Pg_second pr)), ((g 4), aI K 64 (Pg_third pr)), ((g 5), aI K 8 (Pg_rules pr)), ((g 6), aI K 32 (Pg_data pr)), ((g 7), aI K 140 (Pg_names pr)), ((g 8), aI K 140 (Pg_namedPlaces pr))]) cx 4 rfl (by decide) dX6_readLine_99 ef6 rfl ?_
      refine r_aload_n (pc := 100) cx dX6_readLine_100 0 rfl ?_
      refine r_get (pc := 101) cx cf_X6 0 6 rfl (by decide) rfl wd_258 dX6_readLine_101 ?_
      refine r_iconst (pc := 104) cx dX6_readLine_104 ic_2 ?_
      refine r_iconst (pc := 105) cx dX6_readLine_105 ic_0 ?_
      replace hf := nm_of hf
      obtain ⟨f7, ef7, hf⟩ := hf
      refine r_iast (pc := 106) (ws' := [((q 0), ob 5 [.ref (q 1), .int (Rd_filled v3), .int (Rd_fault v3), .int (Rd_faultPlace v3), .ref (q 2), .ref (q 3), .ref (q 4), .ref (q 5), .int (Rd_limit v3), .int (Rd_position v3), .int (Rd_token v3), .int (Rd_value v3), .int (Rd_place v3), .int (Rd_toldRules v3), .int (Rd_toldData v3)]), ((q 1), aB K 700 (Rd_tape v3)), ((q 2), aI K 25 (Rd_words v3)), ((q 3), aI K 75 (Rd_sorts v3)), ((q 4), aI K 3 f7), ((q 5), aI K 64 (Rd_wantedPlaces v3)), ((g 0), ob 3 [.ref (g 1), .ref (g 2), .ref (g 3), .ref (g 4), .ref (g 5), .ref (g 6), .ref (g 7), .ref (g 8), .int (Pg_nameCount pr), .int (Pg_size pr), .int (Pg_lines pr)]), ((g 1), aI K 64 (Pg_code pr)), ((g 2), aI K 64 (Pg_first pr)), ((g 3), aI K 64 (Pg_second pr)), ((g 4), aI K 64 (Pg_third pr)), ((g 5), aI K 8 (Pg_rules pr)), ((g 6), aI K 32 (Pg_data pr)), ((g 7), aI K 140 (Pg_names pr)), ((g 8), aI K 140 (Pg_namedPlaces pr))]) cx 4 rfl (by decide) dX6_readLine_106 ef7 rfl ?_
      refine r_iconst (pc := 107) cx dX6_readLine_107 ic_0 ?_
      refine r_istore_n (pc := 108) (loc' := [(3, .int (0 : Int32)), (0, .ref (q 0)), (1, .ref (g 0)), (2, .int y1)]) cx dX6_readLine_108 rfl (by decide) rfl ?_
      have hL109 : ∀ (k109_154 : T_Rd → Option (T_Rd × T_Pg)), (∀ (v10 : T_Rd), k109_154 v10 = some (o_v, o_pr) → WW p l e rm_Rd_readLine s m args below meth c D A 5 0 0 (MQ below (QV D K A (cl_Rd K q o_v ++ (cl_Pg K g o_pr))) args s 0 0 A) ([((q 0), ob 5 [.ref (q 1), .int (Rd_filled v10), .int (Rd_fault v10), .int (Rd_faultPlace v10), .ref (q 2), .ref (q 3), .ref (q 4), .ref (q 5), .int (Rd_limit v10), .int (Rd_position v10), .int (Rd_token v10), .int (Rd_value v10), .int (Rd_place v10), .int (Rd_toldRules v10), .int (Rd_toldData v10)]), ((q 1), aB K 700 (Rd_tape v10)), ((q 2), aI K 25 (Rd_words v10)), ((q 3), aI K 75 (Rd_sorts v10)), ((q 4), aI K 3 (Rd_parts v10)), ((q 5), aI K 64 (Rd_wantedPlaces v10)), ((g 0), ob 3 [.ref (g 1), .ref (g 2), .ref (g 3), .ref (g 4), .ref (g 5), .ref (g 6), .ref (g 7), .ref (g 8), .int (Pg_nameCount pr), .int (Pg_size pr), .int (Pg_lines pr)]), ((g 1), aI K 64 (Pg_code pr)), ((g 2), aI K 64 (Pg_first pr)), ((g 3), aI K 64 (Pg_second pr)), ((g 4), aI K 64 (Pg_third pr)), ((g 5), aI K 8 (Pg_rules pr)), ((g 6), aI K 32 (Pg_data pr)), ((g 7), aI K 140 (Pg_names pr)), ((g 8), aI K 140 (Pg_namedPlaces pr))]) ([(0, .ref (q 0)), (1, .ref (g 0)), (2, .int y1)]) ([]) 154) → ∀ (n109 : Nat) (x8 : Int32) (v9 : T_Rd), f_Rd_readLine_L109 pr y1 k109_154 n109 x8 v9 = some (o_v, o_pr) → WW p l e rm_Rd_readLine s m args below meth c D A 5 0 0 (MQ below (QV D K A (cl_Rd K q o_v ++ (cl_Pg K g o_pr))) args s 0 0 A) ([((q 0), ob 5 [.ref (q 1), .int (Rd_filled v9), .int (Rd_fault v9), .int (Rd_faultPlace v9), .ref (q 2), .ref (q 3), .ref (q 4), .ref (q 5), .int (Rd_limit v9), .int (Rd_position v9), .int (Rd_token v9), .int (Rd_value v9), .int (Rd_place v9), .int (Rd_toldRules v9), .int (Rd_toldData v9)]), ((q 1), aB K 700 (Rd_tape v9)), ((q 2), aI K 25 (Rd_words v9)), ((q 3), aI K 75 (Rd_sorts v9)), ((q 4), aI K 3 (Rd_parts v9)), ((q 5), aI K 64 (Rd_wantedPlaces v9)), ((g 0), ob 3 [.ref (g 1), .ref (g 2), .ref (g 3), .ref (g 4), .ref (g 5), .ref (g 6), .ref (g 7), .ref (g 8), .int (Pg_nameCount pr), .int (Pg_size pr), .int (Pg_lines pr)]), ((g 1), aI K 64 (Pg_code pr)), ((g 2), aI K 64 (Pg_first pr)), ((g 3), aI K 64 (Pg_second pr)), ((g 4), aI K 64 (Pg_third pr)), ((g 5), aI K 8 (Pg_rules pr)), ((g 6), aI K 32 (Pg_data pr)), ((g 7), aI K 140 (Pg_names pr)), ((g 8), aI K 140 (Pg_namedPlaces pr))]) ([(0, .ref (q 0)), (1, .ref (g 0)), (2, .int y1), (3, .int x8)]) ([]) 109 := by
        clear hf
        intro k109_154 hk109_154 n109
        induction n109 with
        | zero => intro x8 v9 hf; exact (nomatch (show (none : Option (T_Rd × T_Pg)) = some _ from hf))
        | succ n109 ih109 =>
          intro x8 v9 hf
          rw [f_Rd_readLine_L109] at hf
          refine r_iload_n (pc := 109) cx dX6_readLine_109 3 rfl ?_
          refine r_iconst (pc := 110) cx dX6_readLine_110 ic_3 ?_
          refine r_icmp_ge (pc := 111) (tgt := 154) cx dX6_readLine_111 (by decide) (fun h11 => ?_) (fun h11 => ?_)
          · replace hf := ifp h11 hf
            refine r_loc (loc' := [(0, .ref (q 0)), (1, .ref (g 0)), (2, .int y1)]) [0, 1, 2] rfl ?_
            exact hk109_154 _ hf
          · replace hf := ifn h11 hf
            refine r_aload_n (pc := 114) cx dX6_readLine_114 0 rfl ?_
            refine r_get (pc := 115) cx cf_X6 0 2 rfl (by decide) rfl wd_253 dX6_readLine_115 ?_
            refine r_if_ne (pc := 118) (tgt := 154) cx dX6_readLine_118 (by decide) (fun h12 => ?_) (fun h12 => ?_)
            · replace hf := ifn h12 hf
              refine r_loc (loc' := [(0, .ref (q 0)), (1, .ref (g 0)), (2, .int y1)]) [0, 1, 2] rfl ?_
              exact hk109_154 _ hf
            · replace hf := ifp h12 hf
              refine r_aload_n (pc := 121) cx dX6_readLine_121 0 rfl ?_
              refine r_iload_n (pc := 122) cx dX6_readLine_122 2 rfl ?_
              refine r_iload_n (pc := 123) cx dX6_readLine_123 3 rfl ?_
              replace hf := bd_of hf
              obtain ⟨r13, hc14, hf⟩ := hf
              refine r_Vi (pc := 124) (ws' := [((q 0), ob 5 [.ref (q 1), .int (Rd_filled v9), .int (Rd_fault v9), .int (Rd_faultPlace v9), .ref (q 2), .ref (q 3), .ref (q 4), .ref (q 5), .int (Rd_limit v9), .int (Rd_position v9), .int (Rd_token v9), .int (Rd_value v9), .int (Rd_place v9), .int (Rd_toldRules v9), .int (Rd_toldData v9)]), ((q 1), aB K 700 (Rd_tape v9)), ((q 2), aI K 25 (Rd_words v9)), ((q 3), aI K 75 (Rd_sorts v9)), ((q 4), aI K 3 (Rd_parts v9)), ((q 5), aI K 64 (Rd_wantedPlaces v9)), ((g 0), ob 3 [.ref (g 1), .ref (g 2), .ref (g 3), .ref (g 4), .ref (g 5), .ref (g 6), .ref (g 7), .ref (g 8), .int (Pg_nameCount pr), .int (Pg_size pr), .int (Pg_lines pr)]), ((g 1), aI K 64 (Pg_code pr)), ((g 2), aI K 64 (Pg_first pr)), ((g 3), aI K 64 (Pg_second pr)), ((g 4), aI K 64 (Pg_third pr)), ((g 5), aI K 8 (Pg_rules pr)), ((g 6), aI K 32 (Pg_data pr)), ((g 7), aI K 140 (Pg_names pr)), ((g 8), aI K 140 (Pg_namedPlaces pr))]) (wc := [((q 0), ob 5 [.ref (q 1), .int (Rd_filled v9), .int (Rd_fault v9), .int (Rd_faultPlace v9), .ref (q 2), .ref (q 3), .ref (q 4), .ref (q 5), .int (Rd_limit v9), .int (Rd_position v9), .int (Rd_token v9), .int (Rd_value v9), .int (Rd_place v9), .int (Rd_toldRules v9), .int (Rd_toldData v9)]), ((q 1), aB K 700 (Rd_tape v9)), ((q 2), aI K 25 (Rd_words v9)), ((q 3), aI K 75 (Rd_sorts v9)), ((q 4), aI K 3 (Rd_parts v9)), ((q 5), aI K 64 (Rd_wantedPlaces v9))]) (nn := 6) cx [.int y1, .int x8] [] (m_Rd_sortOf l D K q v9 y1 x8 hc14) rfl yv_X6_sortOf wd_653 ⟨rfl, rfl⟩ (by decide) (fr_s (j := 0) rfl rfl rfl (fr_s (j := 1) rfl rfl rfl (fr_s (j := 2) rfl rfl rfl (fr_s (j := 3) rfl rfl rfl (fr_s (j := 4) rfl rfl rfl (fr_s (j := 5) rfl rfl rfl (fr_k (fr_k (fr_k (fr_k (fr_k (fr_k (fr_k (fr_k (fr_k (fr_n)))))))))))))))) rfl (by decide) 0 rfl rfl rfl (Nat.le_of_ble_eq_true rfl) dX6_readLine_124 ?_
              refine r_istore (pc := 127) (loc' := [(4, .int r13), (0, .ref (q 0)), (1, .ref (g 0)), (2, .int y1), (3, .int x8)]) cx dX6_readLine_127 (by decide) rfl ?_
              refine r_iload (pc := 129) cx dX6_readLine_129 0 rfl ?_
              refine r_bipush (pc := 131) cx dX6_readLine_131 bp_32 ?_
              refine r_icmp_eq (pc := 133) (tgt := 148) cx dX6_readLine_133 (by decide) (fun h15 => ?_) (fun h15 => ?_)
              · replace hf := ifp h15 hf
                replace hf := nm_of hf
                obtain ⟨x16, ex16, hf⟩ := hf
                refine r_iinc (pc := 148) (loc' := [(3, .int x16), (4, .int r13), (0, .ref (q 0)), (1, .ref (g 0)), (2, .int y1)]) (v := x16) cx dX6_readLine_148 4 rfl ((congrArg (fun z => x8 + z) ic_1).trans ex16.symm) (by decide) rfl ?_
                refine r_goto (pc := 151) (tgt := 109) cx dX6_readLine_151 (by decide) ?_
                refine r_loc (loc' := [(0, .ref (q 0)), (1, .ref (g 0)), (2, .int y1), (3, .int x16)]) [2, 3, 4, 0] rfl ?_
                exact ih109 _ _ hf
              · replace hf := ifn h15 hf
                refine r_aload_n (pc := 136) cx dX6_readLine_136 1 rfl ?_
                replace hf := bd_of hf
                obtain ⟨v17, hc18, hf⟩ := hf
                refine r_Vv (pc := 137) (ws' := [((q 0), ob 5 [.ref (q 1), .int (Rd_filled v17), .int (Rd_fault v17), .int (Rd_faultPlace v17), .ref (q 2), .ref (q 3), .ref (q 4), .ref (q 5), .int (Rd_limit v17), .int (Rd_position v17), .int (Rd_token v17), .int (Rd_value v17), .int (Rd_place v17), .int (Rd_toldRules v17), .int (Rd_toldData v17)]), ((q 1), aB K 700 (Rd_tape v17)), ((q 2), aI K 25 (Rd_words v17)), ((q 3), aI K 75 (Rd_sorts v17)), ((q 4), aI K 3 (Rd_parts v17)), ((q 5), aI K 64 (Rd_wantedPlaces v17)), ((g 0), ob 3 [.ref (g 1), .ref (g 2), .ref (g 3), .ref (g 4), .ref (g 5), .ref (g 6), .ref (g 7), .ref (g 8), .int (Pg_nameCount pr), .int (Pg_size pr), .int (Pg_lines pr)]), ((g 1), aI K 64 (Pg_code pr)), ((g 2), aI K 64 (Pg_first pr)), ((g 3), aI K 64 (Pg_second pr)), ((g 4), aI K 64 (Pg_third pr)), ((g 5), aI K 8 (Pg_rules pr)), ((g 6), aI K 32 (Pg_data pr)), ((g 7), aI K 140 (Pg_names pr)), ((g 8), aI K 140 (Pg_namedPlaces pr))]) (wc := [((q 0), ob 5 [.ref (q 1), .int (Rd_filled v9), .int (Rd_fault v9), .int (Rd_faultPlace v9), .ref (q 2), .ref (q 3), .ref (q 4), .ref (q 5), .int (Rd_limit v9), .int (Rd_position v9), .int (Rd_token v9), .int (Rd_value v9), .int (Rd_place v9), .int (Rd_toldRules v9), .int (Rd_toldData v9)]), ((q 1), aB K 700 (Rd_tape v9)), ((q 2), aI K 25 (Rd_words v9)), ((q 3), aI K 75 (Rd_sorts v9)), ((q 4), aI K 3 (Rd_parts v9)), ((q 5), aI K 64 (Rd_wantedPlaces v9))]) (nn := 6) cx [] [] (m_Rd_advance l D K q v9 hc18) rfl yv_X6_advance wd_621 ⟨rfl, rfl⟩ (by decide) (fr_s (j := 0) rfl rfl rfl (fr_s (j := 1) rfl rfl rfl (fr_s (j := 2) rfl rfl rfl (fr_s (j := 3) rfl rfl rfl (fr_s (j := 4) rfl rfl rfl (fr_s (j := 5) rfl rfl rfl (fr_k (fr_k (fr_k (fr_k (fr_k (fr_k (fr_k (fr_k (fr_k (fr_n)))))))))))))))) rfl (by decide) 0 rfl rfl rfl (Nat.le_of_ble_eq_true rfl) dX6_readLine_137 ?_
                refine r_aload_n (pc := 140) cx dX6_readLine_140 1 rfl ?_
                refine r_aload_n (pc := 141) cx dX6_readLine_141 2 rfl ?_
                refine r_iload (pc := 142) cx dX6_readLine_142 0 rfl ?_
                refine r_iload_n (pc := 144) cx dX6_readLine_144 4 rfl ?_
                replace hf := bd_of hf
                obtain ⟨v19, hc20, hf⟩ := hf
                refine r_Vv (pc := 145) (ws' := [((q 0), ob 5 [.ref (q 1), .int (Rd_filled v19), .int (Rd_fault v19), .int (Rd_faultPlace v19), .ref (q 2), .ref (q 3), .ref (q 4), .ref (q 5), .int (Rd_limit v19), .int (Rd_position v19), .int (Rd_token v19), .int (Rd_value v19), .int (Rd_place v19), .int (Rd_toldRules v19), .int (Rd_toldData v19)]), ((q 1), aB K 700 (Rd_tape v19)), ((q 2), aI K 25 (Rd_words v19)), ((q 3), aI K 75 (Rd_sorts v19)), ((q 4), aI K 3 (Rd_parts v19)), ((q 5), aI K 64 (Rd_wantedPlaces v19)), ((g 0), ob 3 [.ref (g 1), .ref (g 2), .ref (g 3), .ref (g 4), .ref (g 5), .ref (g 6), .ref (g 7), .ref (g 8), .int (Pg_nameCount pr), .int (Pg_size pr), .int (Pg_lines pr)]), ((g 1), aI K 64 (Pg_code pr)), ((g 2), aI K 64 (Pg_first pr)), ((g 3), aI K 64 (Pg_second pr)), ((g 4), aI K 64 (Pg_third pr)), ((g 5), aI K 8 (Pg_rules pr)), ((g 6), aI K 32 (Pg_data pr)), ((g 7), aI K 140 (Pg_names pr)), ((g 8), aI K 140 (Pg_namedPlaces pr))]) (wc := [((q 0), ob 5 [.ref (q 1), .int (Rd_filled v17), .int (Rd_fault v17), .int (Rd_faultPlace v17), .ref (q 2), .ref (q 3), .ref (q 4), .ref (q 5), .int (Rd_limit v17), .int (Rd_position v17), .int (Rd_token v17), .int (Rd_value v17), .int (Rd_place v17), .int (Rd_toldRules v17), .int (Rd_toldData v17)]), ((q 1), aB K 700 (Rd_tape v17)), ((q 2), aI K 25 (Rd_words v17)), ((q 3), aI K 75 (Rd_sorts v17)), ((q 4), aI K 3 (Rd_parts v17)), ((q 5), aI K 64 (Rd_wantedPlaces v17)), ((g 0), ob 3 [.ref (g 1), .ref (g 2), .ref (g 3), .ref (g 4), .ref (g 5), .ref (g 6), .ref (g 7), .ref (g 8), .int (Pg_nameCount pr), .int (Pg_size pr), .int (Pg_lines pr)]), ((g 1), aI K 64 (Pg_code pr)), ((g 2), aI K 64 (Pg_first pr)), ((g 3), aI K 64 (Pg_second pr)), ((g 4), aI K 64 (Pg_third pr)), ((g 5), aI K 8 (Pg_rules pr)), ((g 6), aI K 32 (Pg_data pr)), ((g 7), aI K 140 (Pg_names pr)), ((g 8), aI K 140 (Pg_namedPlaces pr))]) (nn := 15) cx [.ref (g 0), .int r13, .int x8] [] (m_Rd_readPart l D K q v17 g pr r13 x8 hc20) rfl yv_X6_readPart wd_657 ⟨rfl, rfl⟩ (by decide) (fr_s (j := 0) rfl rfl rfl (fr_s (j := 1) rfl rfl rfl (fr_s (j := 2) rfl rfl rfl (fr_s (j := 3) rfl rfl rfl (fr_s (j := 4) rfl rfl rfl (fr_s (j := 5) rfl rfl rfl (fr_s (j := 6) rfl rfl rfl (fr_s (j := 7) rfl rfl rfl (fr_s (j := 8) rfl rfl rfl (fr_s (j := 9) rfl rfl rfl (fr_s (j := 10) rfl rfl rfl (fr_s (j := 11) rfl rfl rfl (fr_s (j := 12) rfl rfl rfl (fr_s (j := 13) rfl rfl rfl (fr_s (j := 14) rfl rfl rfl (fr_n)))))))))))))))) rfl (by decide) 0 rfl rfl rfl (Nat.le_of_ble_eq_true rfl) dX6_readLine_145 ?_
                replace hf := nm_of hf
                obtain ⟨x21, ex21, hf⟩ := hf
                refine r_iinc (pc := 148) (loc' := [(3, .int x21), (4, .int r13), (0, .ref (q 0)), (1, .ref (g 0)), (2, .int y1)]) (v := x21) cx dX6_readLine_148 4 rfl ((congrArg (fun z => x8 + z) ic_1).trans ex21.symm) (by decide) rfl ?_
                refine r_goto (pc := 151) (tgt := 109) cx dX6_readLine_151 (by decide) ?_
                refine r_loc (loc' := [(0, .ref (q 0)), (1, .ref (g 0)), (2, .int y1), (3, .int x21)]) [2, 3, 4, 0] rfl ?_
                exact ih109 _ _ hf
      refine r_loc (loc' := [(0, .ref (q 0)), (1, .ref (g 0)), (2, .int y1), (3, .int (0 : Int32))]) [1, 2, 3, 0] rfl ?_
      refine hL109 _ (fun v10 hf => ?_) _ _ _ hf
      refine r_aload_n (pc := 154) cx dX6_readLine_154 0 rfl ?_
      refine r_get (pc := 155) cx cf_X6 0 2 rfl (by decide) rfl wd_253 dX6_readLine_155 ?_
      replace hf := nm_of hf
      obtain ⟨J23, eJ23, hf⟩ := hf
      have hJ23 : ∀ (v22 : T_Rd), J23 v22 = some (o_v, o_pr) → WW p l e rm_Rd_readLine s m args below meth c D A 5 0 0 (MQ below (QV D K A (cl_Rd K q o_v ++ (cl_Pg K g o_pr))) args s 0 0 A) ([((q 0), ob 5 [.ref (q 1), .int (Rd_filled v22), .int (Rd_fault v22), .int (Rd_faultPlace v22), .ref (q 2), .ref (q 3), .ref (q 4), .ref (q 5), .int (Rd_limit v22), .int (Rd_position v22), .int (Rd_token v22), .int (Rd_value v22), .int (Rd_place v22), .int (Rd_toldRules v22), .int (Rd_toldData v22)]), ((q 1), aB K 700 (Rd_tape v22)), ((q 2), aI K 25 (Rd_words v22)), ((q 3), aI K 75 (Rd_sorts v22)), ((q 4), aI K 3 (Rd_parts v22)), ((q 5), aI K 64 (Rd_wantedPlaces v22)), ((g 0), ob 3 [.ref (g 1), .ref (g 2), .ref (g 3), .ref (g 4), .ref (g 5), .ref (g 6), .ref (g 7), .ref (g 8), .int (Pg_nameCount pr), .int (Pg_size pr), .int (Pg_lines pr)]), ((g 1), aI K 64 (Pg_code pr)), ((g 2), aI K 64 (Pg_first pr)), ((g 3), aI K 64 (Pg_second pr)), ((g 4), aI K 64 (Pg_third pr)), ((g 5), aI K 8 (Pg_rules pr)), ((g 6), aI K 32 (Pg_data pr)), ((g 7), aI K 140 (Pg_names pr)), ((g 8), aI K 140 (Pg_namedPlaces pr))]) ([(0, .ref (q 0)), (1, .ref (g 0)), (2, .int y1)]) ([]) 182 := by
        clear hf
        intro v22 hf
        rw [eJ23] at hf
        refine r_aload_n (pc := 182) cx dX6_readLine_182 0 rfl ?_
        refine r_get (pc := 183) cx cf_X6 0 2 rfl (by decide) rfl wd_253 dX6_readLine_183 ?_
        refine r_if_ne (pc := 186) (tgt := 205) cx dX6_readLine_186 (by decide) (fun h24 => ?_) (fun h24 => ?_)
        · replace hf := ifn h24 hf
          have hi := inj2 hf
          exact r_vret (pc := 205) cx (by rw [← hi.1, ← hi.2]; rfl) dX6_readLine_205
        · replace hf := ifp h24 hf
          refine r_aload_n (pc := 189) cx dX6_readLine_189 1 rfl ?_
          refine r_dup (pc := 190) cx dX6_readLine_190 rfl ?_
          refine r_get (pc := 191) cx cf_X4 6 10 rfl (by decide) rfl wd_160 dX6_readLine_191 ?_
          refine r_iconst (pc := 194) cx dX6_readLine_194 ic_1 ?_
          refine r_iadd (pc := 195) cx dX6_readLine_195 ?_
          replace hf := nm_of hf
          obtain ⟨x25, ex25, hf⟩ := hf
          refine r_nm ex25 ?_
          refine r_putI (pc := 196) (ws' := [((q 0), ob 5 [.ref (q 1), .int (Rd_filled v22), .int (Rd_fault v22), .int (Rd_faultPlace v22), .ref (q 2), .ref (q 3), .ref (q 4), .ref (q 5), .int (Rd_limit v22), .int (Rd_position v22), .int (Rd_token v22), .int (Rd_value v22), .int (Rd_place v22), .int (Rd_toldRules v22), .int (Rd_toldData v22)]), ((q 1), aB K 700 (Rd_tape v22)), ((q 2), aI K 25 (Rd_words v22)), ((q 3), aI K 75 (Rd_sorts v22)), ((q 4), aI K 3 (Rd_parts v22)), ((q 5), aI K 64 (Rd_wantedPlaces v22)), ((g 0), ob 3 [.ref (g 1), .ref (g 2), .ref (g 3), .ref (g 4), .ref (g 5), .ref (g 6), .ref (g 7), .ref (g 8), .int (Pg_nameCount pr), .int (Pg_size pr), .int x25]), ((g 1), aI K 64 (Pg_code pr)), ((g 2), aI K 64 (Pg_first pr)), ((g 3), aI K 64 (Pg_second pr)), ((g 4), aI K 64 (Pg_third pr)), ((g 5), aI K 8 (Pg_rules pr)), ((g 6), aI K 32 (Pg_data pr)), ((g 7), aI K 140 (Pg_names pr)), ((g 8), aI K 140 (Pg_namedPlaces pr))]) cx cf_X4 6 10 rfl (by decide) (Nat.le_of_ble_eq_true rfl) rfl pfd_I wd_160 dX6_readLine_196 rfl ?_
          refine r_aload_n (pc := 199) cx dX6_readLine_199 0 rfl ?_
          refine r_aload_n (pc := 200) cx dX6_readLine_200 1 rfl ?_
          refine r_iload_n (pc := 201) cx dX6_readLine_201 2 rfl ?_
          replace hf := bd2_of hf
          obtain ⟨v26, v27, hc28, hf⟩ := hf
          refine r_Vv (pc := 202) (ws' := [((q 0), ob 5 [.ref (q 1), .int (Rd_filled v26), .int (Rd_fault v26), .int (Rd_faultPlace v26), .ref (q 2), .ref (q 3), .ref (q 4), .ref (q 5), .int (Rd_limit v26), .int (Rd_position v26), .int (Rd_token v26), .int (Rd_value v26), .int (Rd_place v26), .int (Rd_toldRules v26), .int (Rd_toldData v26)]), ((q 1), aB K 700 (Rd_tape v26)), ((q 2), aI K 25 (Rd_words v26)), ((q 3), aI K 75 (Rd_sorts v26)), ((q 4), aI K 3 (Rd_parts v26)), ((q 5), aI K 64 (Rd_wantedPlaces v26)), ((g 0), ob 3 [.ref (g 1), .ref (g 2), .ref (g 3), .ref (g 4), .ref (g 5), .ref (g 6), .ref (g 7), .ref (g 8), .int (Pg_nameCount v27), .int (Pg_size v27), .int (Pg_lines v27)]), ((g 1), aI K 64 (Pg_code v27)), ((g 2), aI K 64 (Pg_first v27)), ((g 3), aI K 64 (Pg_second v27)), ((g 4), aI K 64 (Pg_third v27)), ((g 5), aI K 8 (Pg_rules v27)), ((g 6), aI K 32 (Pg_data v27)), ((g 7), aI K 140 (Pg_names v27)), ((g 8), aI K 140 (Pg_namedPlaces v27))]) (wc := [((q 0), ob 5 [.ref (q 1), .int (Rd_filled v22), .int (Rd_fault v22), .int (Rd_faultPlace v22), .ref (q 2), .ref (q 3), .ref (q 4), .ref (q 5), .int (Rd_limit v22), .int (Rd_position v22), .int (Rd_token v22), .int (Rd_value v22), .int (Rd_place v22), .int (Rd_toldRules v22), .int (Rd_toldData v22)]), ((q 1), aB K 700 (Rd_tape v22)), ((q 2), aI K 25 (Rd_words v22)), ((q 3), aI K 75 (Rd_sorts v22)), ((q 4), aI K 3 (Rd_parts v22)), ((q 5), aI K 64 (Rd_wantedPlaces v22)), ((g 0), ob 3 [.ref (g 1), .ref (g 2), .ref (g 3), .ref (g 4), .ref (g 5), .ref (g 6), .ref (g 7), .ref (g 8), .int (Pg_nameCount pr), .int (Pg_size pr), .int x25]), ((g 1), aI K 64 (Pg_code pr)), ((g 2), aI K 64 (Pg_first pr)), ((g 3), aI K 64 (Pg_second pr)), ((g 4), aI K 64 (Pg_third pr)), ((g 5), aI K 8 (Pg_rules pr)), ((g 6), aI K 32 (Pg_data pr)), ((g 7), aI K 140 (Pg_names pr)), ((g 8), aI K 140 (Pg_namedPlaces pr))]) (nn := 15) cx [.ref (g 0), .int y1] [] (m_Rd_takeLine l D K q v22 g ((Pg_code pr), (Pg_first pr), (Pg_second pr), (Pg_third pr), (Pg_rules pr), (Pg_data pr), (Pg_names pr), (Pg_namedPlaces pr), (Pg_nameCount pr), (Pg_size pr), x25) y1 hc28) (by (try simp only [cl_Rd, Rd_tape_mk, Rd_filled_mk, Rd_fault_mk, Rd_faultPlace_mk, Rd_words_mk, Rd_sorts_mk, Rd_parts_mk, Rd_wantedPlaces_mk, Rd_limit_mk, Rd_position_mk, Rd_token_mk, Rd_value_mk, Rd_place_mk, Rd_toldRules_mk, Rd_toldData_mk, cl_Pg, Pg_code_mk, Pg_first_mk, Pg_second_mk, Pg_third_mk, Pg_rules_mk, Pg_data_mk, Pg_names_mk, Pg_namedPlaces_mk, Pg_nameCount_mk, Pg_size_mk, Pg_lines_mk, List.cons_append, List.nil_append, List.append_nil]) <;> rfl) yv_X6_takeLine wd_677 ⟨rfl, rfl⟩ (by decide) (fr_s (j := 0) rfl rfl rfl (fr_s (j := 1) rfl rfl rfl (fr_s (j := 2) rfl rfl rfl (fr_s (j := 3) rfl rfl rfl (fr_s (j := 4) rfl rfl rfl (fr_s (j := 5) rfl rfl rfl (fr_s (j := 6) rfl rfl rfl (fr_s (j := 7) rfl rfl rfl (fr_s (j := 8) rfl rfl rfl (fr_s (j := 9) rfl rfl rfl (fr_s (j := 10) rfl rfl rfl (fr_s (j := 11) rfl rfl rfl (fr_s (j := 12) rfl rfl rfl (fr_s (j := 13) rfl rfl rfl (fr_s (j := 14) rfl rfl rfl (fr_n)))))))))))))))) rfl (by decide) 0 rfl rfl rfl (Nat.le_of_ble_eq_true rfl) dX6_readLine_202 ?_
          have hi := inj2 hf
          exact r_vret (pc := 205) cx (by rw [← hi.1, ← hi.2]; rfl) dX6_readLine_205
      refine r_if_ne (pc := 158) (tgt := 182) cx dX6_readLine_158 (by decide) (fun h29 => ?_) (fun h29 => ?_)
      · replace hf := ifn h29 hf
        exact hJ23 _ hf
      · replace hf := ifp h29 hf
        refine r_aload_n (pc := 161) cx dX6_readLine_161 0 rfl ?_
        replace hf := bd_of hf
        obtain ⟨v30, hc31, hf⟩ := hf
        refine r_Vv (pc := 162) (ws' := [((q 0), ob 5 [.ref (q 1), .int (Rd_filled v30), .int (Rd_fault v30), .int (Rd_faultPlace v30), .ref (q 2), .ref (q 3), .ref (q 4), .ref (q 5), .int (Rd_limit v30), .int (Rd_position v30), .int (Rd_token v30), .int (Rd_value v30), .int (Rd_place v30), .int (Rd_toldRules v30), .int (Rd_toldData v30)]), ((q 1), aB K 700 (Rd_tape v30)), ((q 2), aI K 25 (Rd_words v30)), ((q 3), aI K 75 (Rd_sorts v30)), ((q 4), aI K 3 (Rd_parts v30)), ((q 5), aI K 64 (Rd_wantedPlaces v30)), ((g 0), ob 3 [.ref (g 1), .ref (g 2), .ref (g 3), .ref (g 4), .ref (g 5), .ref (g 6), .ref (g 7), .ref (g 8), .int (Pg_nameCount pr), .int (Pg_size pr), .int (Pg_lines pr)]), ((g 1), aI K 64 (Pg_code pr)), ((g 2), aI K 64 (Pg_first pr)), ((g 3), aI K 64 (Pg_second pr)), ((g 4), aI K 64 (Pg_third pr)), ((g 5), aI K 8 (Pg_rules pr)), ((g 6), aI K 32 (Pg_data pr)), ((g 7), aI K 140 (Pg_names pr)), ((g 8), aI K 140 (Pg_namedPlaces pr))]) (wc := [((q 0), ob 5 [.ref (q 1), .int (Rd_filled v10), .int (Rd_fault v10), .int (Rd_faultPlace v10), .ref (q 2), .ref (q 3), .ref (q 4), .ref (q 5), .int (Rd_limit v10), .int (Rd_position v10), .int (Rd_token v10), .int (Rd_value v10), .int (Rd_place v10), .int (Rd_toldRules v10), .int (Rd_toldData v10)]), ((q 1), aB K 700 (Rd_tape v10)), ((q 2), aI K 25 (Rd_words v10)), ((q 3), aI K 75 (Rd_sorts v10)), ((q 4), aI K 3 (Rd_parts v10)), ((q 5), aI K 64 (Rd_wantedPlaces v10))]) (nn := 6) cx [] [] (m_Rd_advance l D K q v10 hc31) rfl yv_X6_advance wd_621 ⟨rfl, rfl⟩ (by decide) (fr_s (j := 0) rfl rfl rfl (fr_s (j := 1) rfl rfl rfl (fr_s (j := 2) rfl rfl rfl (fr_s (j := 3) rfl rfl rfl (fr_s (j := 4) rfl rfl rfl (fr_s (j := 5) rfl rfl rfl (fr_k (fr_k (fr_k (fr_k (fr_k (fr_k (fr_k (fr_k (fr_k (fr_n)))))))))))))))) rfl (by decide) 0 rfl rfl rfl (Nat.le_of_ble_eq_true rfl) dX6_readLine_162 ?_
        refine r_aload_n (pc := 165) cx dX6_readLine_165 0 rfl ?_
        refine r_get (pc := 166) cx cf_X6 0 10 rfl (by decide) rfl wd_262 dX6_readLine_166 ?_
        refine r_iconst (pc := 169) cx dX6_readLine_169 ic_3 ?_
        refine r_icmp_eq (pc := 170) (tgt := 182) cx dX6_readLine_170 (by decide) (fun h32 => ?_) (fun h32 => ?_)
        · replace hf := ifp h32 hf
          exact hJ23 _ hf
        · replace hf := ifn h32 hf
          refine r_aload_n (pc := 173) cx dX6_readLine_173 0 rfl ?_
          refine r_iconst (pc := 174) cx dX6_readLine_174 ic_1 ?_
          refine r_aload_n (pc := 175) cx dX6_readLine_175 0 rfl ?_
          refine r_get (pc := 176) cx cf_X6 0 12 rfl (by decide) rfl wd_264 dX6_readLine_176 ?_
          replace hf := bd_of hf
          obtain ⟨v33, hc34, hf⟩ := hf
          refine r_Vv (pc := 179) (ws' := [((q 0), ob 5 [.ref (q 1), .int (Rd_filled v33), .int (Rd_fault v33), .int (Rd_faultPlace v33), .ref (q 2), .ref (q 3), .ref (q 4), .ref (q 5), .int (Rd_limit v33), .int (Rd_position v33), .int (Rd_token v33), .int (Rd_value v33), .int (Rd_place v33), .int (Rd_toldRules v33), .int (Rd_toldData v33)]), ((q 1), aB K 700 (Rd_tape v33)), ((q 2), aI K 25 (Rd_words v33)), ((q 3), aI K 75 (Rd_sorts v33)), ((q 4), aI K 3 (Rd_parts v33)), ((q 5), aI K 64 (Rd_wantedPlaces v33)), ((g 0), ob 3 [.ref (g 1), .ref (g 2), .ref (g 3), .ref (g 4), .ref (g 5), .ref (g 6), .ref (g 7), .ref (g 8), .int (Pg_nameCount pr), .int (Pg_size pr), .int (Pg_lines pr)]), ((g 1), aI K 64 (Pg_code pr)), ((g 2), aI K 64 (Pg_first pr)), ((g 3), aI K 64 (Pg_second pr)), ((g 4), aI K 64 (Pg_third pr)), ((g 5), aI K 8 (Pg_rules pr)), ((g 6), aI K 32 (Pg_data pr)), ((g 7), aI K 140 (Pg_names pr)), ((g 8), aI K 140 (Pg_namedPlaces pr))]) (wc := [((q 0), ob 5 [.ref (q 1), .int (Rd_filled v30), .int (Rd_fault v30), .int (Rd_faultPlace v30), .ref (q 2), .ref (q 3), .ref (q 4), .ref (q 5), .int (Rd_limit v30), .int (Rd_position v30), .int (Rd_token v30), .int (Rd_value v30), .int (Rd_place v30), .int (Rd_toldRules v30), .int (Rd_toldData v30)]), ((q 1), aB K 700 (Rd_tape v30)), ((q 2), aI K 25 (Rd_words v30)), ((q 3), aI K 75 (Rd_sorts v30)), ((q 4), aI K 3 (Rd_parts v30)), ((q 5), aI K 64 (Rd_wantedPlaces v30))]) (nn := 6) cx [.int (1 : Int32), .int (Rd_place v30)] [] (m_Rd_fail l D K q v30 (1 : Int32) (Rd_place v30) hc34) rfl yv_X6_fail wd_649 ⟨rfl, rfl⟩ (by decide) (fr_s (j := 0) rfl rfl rfl (fr_s (j := 1) rfl rfl rfl (fr_s (j := 2) rfl rfl rfl (fr_s (j := 3) rfl rfl rfl (fr_s (j := 4) rfl rfl rfl (fr_s (j := 5) rfl rfl rfl (fr_k (fr_k (fr_k (fr_k (fr_k (fr_k (fr_k (fr_k (fr_k (fr_n)))))))))))))))) rfl (by decide) 0 rfl rfl rfl (Nat.le_of_ble_eq_true rfl) dX6_readLine_179 ?_
          exact hJ23 _ hf
    refine r_icmp_ne (pc := 23) (tgt := 38) cx dX6_readLine_23 (by decide) (fun h35 => ?_) (fun h35 => ?_)
    · replace hf := ifn h35 hf
      refine r_iload_n (pc := 38) cx dX6_readLine_38 0 rfl ?_
      refine r_bipush (pc := 39) cx dX6_readLine_39 bp_7 ?_
      refine r_icmp_lt (pc := 41) (tgt := 65) cx dX6_readLine_41 (by decide) (fun h36 => ?_) (fun h36 => ?_)
      · replace hf := ifp h36 hf
        refine r_aload_n (pc := 65) cx dX6_readLine_65 1 rfl ?_
        refine r_get (pc := 66) cx cf_X6 0 13 rfl (by decide) rfl wd_265 dX6_readLine_66 ?_
        refine r_iload_n (pc := 69) cx dX6_readLine_69 0 rfl ?_
        refine r_ishr (pc := 70) cx dX6_readLine_70 ?_
        refine r_iconst (pc := 71) cx dX6_readLine_71 ic_1 ?_
        refine r_iand (pc := 72) cx dX6_readLine_72 ?_
        refine r_iconst (pc := 73) cx dX6_readLine_73 ic_1 ?_
        refine r_icmp_ne (pc := 74) (tgt := 86) cx dX6_readLine_74 (by decide) (fun h37 => ?_) (fun h37 => ?_)
        · replace hf := ifn h37 hf
          refine r_loc (loc' := [(0, .ref (q 0)), (1, .ref (g 0)), (2, .int y1)]) [1, 2, 0] rfl ?_
          exact hJ4 _ hf
        · replace hf := ifp h37 hf
          refine r_aload_n (pc := 77) cx dX6_readLine_77 1 rfl ?_
          refine r_iconst (pc := 78) cx dX6_readLine_78 ic_3 ?_
          refine r_aload_n (pc := 79) cx dX6_readLine_79 1 rfl ?_
          refine r_get (pc := 80) cx cf_X6 0 12 rfl (by decide) rfl wd_264 dX6_readLine_80 ?_
          replace hf := bd_of hf
          obtain ⟨v38, hc39, hf⟩ := hf
          refine r_Vv (pc := 83) (ws' := [((q 0), ob 5 [.ref (q 1), .int (Rd_filled v38), .int (Rd_fault v38), .int (Rd_faultPlace v38), .ref (q 2), .ref (q 3), .ref (q 4), .ref (q 5), .int (Rd_limit v38), .int (Rd_position v38), .int (Rd_token v38), .int (Rd_value v38), .int (Rd_place v38), .int (Rd_toldRules v38), .int (Rd_toldData v38)]), ((q 1), aB K 700 (Rd_tape v38)), ((q 2), aI K 25 (Rd_words v38)), ((q 3), aI K 75 (Rd_sorts v38)), ((q 4), aI K 3 (Rd_parts v38)), ((q 5), aI K 64 (Rd_wantedPlaces v38)), ((g 0), ob 3 [.ref (g 1), .ref (g 2), .ref (g 3), .ref (g 4), .ref (g 5), .ref (g 6), .ref (g 7), .ref (g 8), .int (Pg_nameCount pr), .int (Pg_size pr), .int (Pg_lines pr)]), ((g 1), aI K 64 (Pg_code pr)), ((g 2), aI K 64 (Pg_first pr)), ((g 3), aI K 64 (Pg_second pr)), ((g 4), aI K 64 (Pg_third pr)), ((g 5), aI K 8 (Pg_rules pr)), ((g 6), aI K 32 (Pg_data pr)), ((g 7), aI K 140 (Pg_names pr)), ((g 8), aI K 140 (Pg_namedPlaces pr))]) (wc := [((q 0), ob 5 [.ref (q 1), .int (Rd_filled v), .int (Rd_fault v), .int (Rd_faultPlace v), .ref (q 2), .ref (q 3), .ref (q 4), .ref (q 5), .int (Rd_limit v), .int (Rd_position v), .int (Rd_token v), .int (Rd_value v), .int (Rd_place v), .int (Rd_toldRules v), .int (Rd_toldData v)]), ((q 1), aB K 700 (Rd_tape v)), ((q 2), aI K 25 (Rd_words v)), ((q 3), aI K 75 (Rd_sorts v)), ((q 4), aI K 3 (Rd_parts v)), ((q 5), aI K 64 (Rd_wantedPlaces v))]) (nn := 6) cx [.int (3 : Int32), .int (Rd_place v)] [] (m_Rd_fail l D K q v (3 : Int32) (Rd_place v) hc39) rfl yv_X6_fail wd_649 ⟨rfl, rfl⟩ (by decide) (fr_s (j := 0) rfl rfl rfl (fr_s (j := 1) rfl rfl rfl (fr_s (j := 2) rfl rfl rfl (fr_s (j := 3) rfl rfl rfl (fr_s (j := 4) rfl rfl rfl (fr_s (j := 5) rfl rfl rfl (fr_k (fr_k (fr_k (fr_k (fr_k (fr_k (fr_k (fr_k (fr_k (fr_n)))))))))))))))) rfl (by decide) 0 rfl rfl rfl (Nat.le_of_ble_eq_true rfl) dX6_readLine_83 ?_
          refine r_loc (loc' := [(0, .ref (q 0)), (1, .ref (g 0)), (2, .int y1)]) [1, 2, 0] rfl ?_
          exact hJ4 _ hf
      · replace hf := ifn h36 hf
        refine r_aload_n (pc := 44) cx dX6_readLine_44 2 rfl ?_
        refine r_get (pc := 45) cx cf_X4 6 9 rfl (by decide) rfl wd_156 dX6_readLine_45 ?_
        refine r_bipush (pc := 48) cx dX6_readLine_48 bp_40 ?_
        refine r_icmp_lt (pc := 50) (tgt := 65) cx dX6_readLine_50 (by decide) (fun h40 => ?_) (fun h40 => ?_)
        · replace hf := ifp h40 hf
          refine r_aload_n (pc := 65) cx dX6_readLine_65 1 rfl ?_
          refine r_get (pc := 66) cx cf_X6 0 13 rfl (by decide) rfl wd_265 dX6_readLine_66 ?_
          refine r_iload_n (pc := 69) cx dX6_readLine_69 0 rfl ?_
          refine r_ishr (pc := 70) cx dX6_readLine_70 ?_
          refine r_iconst (pc := 71) cx dX6_readLine_71 ic_1 ?_
          refine r_iand (pc := 72) cx dX6_readLine_72 ?_
          refine r_iconst (pc := 73) cx dX6_readLine_73 ic_1 ?_
          refine r_icmp_ne (pc := 74) (tgt := 86) cx dX6_readLine_74 (by decide) (fun h41 => ?_) (fun h41 => ?_)
          · replace hf := ifn h41 hf
            refine r_loc (loc' := [(0, .ref (q 0)), (1, .ref (g 0)), (2, .int y1)]) [1, 2, 0] rfl ?_
            exact hJ4 _ hf
          · replace hf := ifp h41 hf
            refine r_aload_n (pc := 77) cx dX6_readLine_77 1 rfl ?_
            refine r_iconst (pc := 78) cx dX6_readLine_78 ic_3 ?_
            refine r_aload_n (pc := 79) cx dX6_readLine_79 1 rfl ?_
            refine r_get (pc := 80) cx cf_X6 0 12 rfl (by decide) rfl wd_264 dX6_readLine_80 ?_
            replace hf := bd_of hf
            obtain ⟨v42, hc43, hf⟩ := hf
            refine r_Vv (pc := 83) (ws' := [((q 0), ob 5 [.ref (q 1), .int (Rd_filled v42), .int (Rd_fault v42), .int (Rd_faultPlace v42), .ref (q 2), .ref (q 3), .ref (q 4), .ref (q 5), .int (Rd_limit v42), .int (Rd_position v42), .int (Rd_token v42), .int (Rd_value v42), .int (Rd_place v42), .int (Rd_toldRules v42), .int (Rd_toldData v42)]), ((q 1), aB K 700 (Rd_tape v42)), ((q 2), aI K 25 (Rd_words v42)), ((q 3), aI K 75 (Rd_sorts v42)), ((q 4), aI K 3 (Rd_parts v42)), ((q 5), aI K 64 (Rd_wantedPlaces v42)), ((g 0), ob 3 [.ref (g 1), .ref (g 2), .ref (g 3), .ref (g 4), .ref (g 5), .ref (g 6), .ref (g 7), .ref (g 8), .int (Pg_nameCount pr), .int (Pg_size pr), .int (Pg_lines pr)]), ((g 1), aI K 64 (Pg_code pr)), ((g 2), aI K 64 (Pg_first pr)), ((g 3), aI K 64 (Pg_second pr)), ((g 4), aI K 64 (Pg_third pr)), ((g 5), aI K 8 (Pg_rules pr)), ((g 6), aI K 32 (Pg_data pr)), ((g 7), aI K 140 (Pg_names pr)), ((g 8), aI K 140 (Pg_namedPlaces pr))]) (wc := [((q 0), ob 5 [.ref (q 1), .int (Rd_filled v), .int (Rd_fault v), .int (Rd_faultPlace v), .ref (q 2), .ref (q 3), .ref (q 4), .ref (q 5), .int (Rd_limit v), .int (Rd_position v), .int (Rd_token v), .int (Rd_value v), .int (Rd_place v), .int (Rd_toldRules v), .int (Rd_toldData v)]), ((q 1), aB K 700 (Rd_tape v)), ((q 2), aI K 25 (Rd_words v)), ((q 3), aI K 75 (Rd_sorts v)), ((q 4), aI K 3 (Rd_parts v)), ((q 5), aI K 64 (Rd_wantedPlaces v))]) (nn := 6) cx [.int (3 : Int32), .int (Rd_place v)] [] (m_Rd_fail l D K q v (3 : Int32) (Rd_place v) hc43) rfl yv_X6_fail wd_649 ⟨rfl, rfl⟩ (by decide) (fr_s (j := 0) rfl rfl rfl (fr_s (j := 1) rfl rfl rfl (fr_s (j := 2) rfl rfl rfl (fr_s (j := 3) rfl rfl rfl (fr_s (j := 4) rfl rfl rfl (fr_s (j := 5) rfl rfl rfl (fr_k (fr_k (fr_k (fr_k (fr_k (fr_k (fr_k (fr_k (fr_k (fr_n)))))))))))))))) rfl (by decide) 0 rfl rfl rfl (Nat.le_of_ble_eq_true rfl) dX6_readLine_83 ?_
            refine r_loc (loc' := [(0, .ref (q 0)), (1, .ref (g 0)), (2, .int y1)]) [1, 2, 0] rfl ?_
            exact hJ4 _ hf
        · replace hf := ifn h40 hf
          refine r_aload_n (pc := 53) cx dX6_readLine_53 1 rfl ?_
          refine r_iconst (pc := 54) cx dX6_readLine_54 ic_2 ?_
          refine r_aload_n (pc := 55) cx dX6_readLine_55 1 rfl ?_
          refine r_get (pc := 56) cx cf_X6 0 12 rfl (by decide) rfl wd_264 dX6_readLine_56 ?_
          replace hf := bd_of hf
          obtain ⟨v44, hc45, hf⟩ := hf
          refine r_Vv (pc := 59) (ws' := [((q 0), ob 5 [.ref (q 1), .int (Rd_filled v44), .int (Rd_fault v44), .int (Rd_faultPlace v44), .ref (q 2), .ref (q 3), .ref (q 4), .ref (q 5), .int (Rd_limit v44), .int (Rd_position v44), .int (Rd_token v44), .int (Rd_value v44), .int (Rd_place v44), .int (Rd_toldRules v44), .int (Rd_toldData v44)]), ((q 1), aB K 700 (Rd_tape v44)), ((q 2), aI K 25 (Rd_words v44)), ((q 3), aI K 75 (Rd_sorts v44)), ((q 4), aI K 3 (Rd_parts v44)), ((q 5), aI K 64 (Rd_wantedPlaces v44)), ((g 0), ob 3 [.ref (g 1), .ref (g 2), .ref (g 3), .ref (g 4), .ref (g 5), .ref (g 6), .ref (g 7), .ref (g 8), .int (Pg_nameCount pr), .int (Pg_size pr), .int (Pg_lines pr)]), ((g 1), aI K 64 (Pg_code pr)), ((g 2), aI K 64 (Pg_first pr)), ((g 3), aI K 64 (Pg_second pr)), ((g 4), aI K 64 (Pg_third pr)), ((g 5), aI K 8 (Pg_rules pr)), ((g 6), aI K 32 (Pg_data pr)), ((g 7), aI K 140 (Pg_names pr)), ((g 8), aI K 140 (Pg_namedPlaces pr))]) (wc := [((q 0), ob 5 [.ref (q 1), .int (Rd_filled v), .int (Rd_fault v), .int (Rd_faultPlace v), .ref (q 2), .ref (q 3), .ref (q 4), .ref (q 5), .int (Rd_limit v), .int (Rd_position v), .int (Rd_token v), .int (Rd_value v), .int (Rd_place v), .int (Rd_toldRules v), .int (Rd_toldData v)]), ((q 1), aB K 700 (Rd_tape v)), ((q 2), aI K 25 (Rd_words v)), ((q 3), aI K 75 (Rd_sorts v)), ((q 4), aI K 3 (Rd_parts v)), ((q 5), aI K 64 (Rd_wantedPlaces v))]) (nn := 6) cx [.int (2 : Int32), .int (Rd_place v)] [] (m_Rd_fail l D K q v (2 : Int32) (Rd_place v) hc45) rfl yv_X6_fail wd_649 ⟨rfl, rfl⟩ (by decide) (fr_s (j := 0) rfl rfl rfl (fr_s (j := 1) rfl rfl rfl (fr_s (j := 2) rfl rfl rfl (fr_s (j := 3) rfl rfl rfl (fr_s (j := 4) rfl rfl rfl (fr_s (j := 5) rfl rfl rfl (fr_k (fr_k (fr_k (fr_k (fr_k (fr_k (fr_k (fr_k (fr_k (fr_n)))))))))))))))) rfl (by decide) 0 rfl rfl rfl (Nat.le_of_ble_eq_true rfl) dX6_readLine_59 ?_
          refine r_goto (pc := 62) (tgt := 86) cx dX6_readLine_62 (by decide) ?_
          refine r_loc (loc' := [(0, .ref (q 0)), (1, .ref (g 0)), (2, .int y1)]) [1, 2, 0] rfl ?_
          exact hJ4 _ hf
    · replace hf := ifp h35 hf
      refine r_aload_n (pc := 26) cx dX6_readLine_26 1 rfl ?_
      refine r_iconst (pc := 27) cx dX6_readLine_27 ic_1 ?_
      refine r_aload_n (pc := 28) cx dX6_readLine_28 1 rfl ?_
      refine r_get (pc := 29) cx cf_X6 0 12 rfl (by decide) rfl wd_264 dX6_readLine_29 ?_
      replace hf := bd_of hf
      obtain ⟨v46, hc47, hf⟩ := hf
      refine r_Vv (pc := 32) (ws' := [((q 0), ob 5 [.ref (q 1), .int (Rd_filled v46), .int (Rd_fault v46), .int (Rd_faultPlace v46), .ref (q 2), .ref (q 3), .ref (q 4), .ref (q 5), .int (Rd_limit v46), .int (Rd_position v46), .int (Rd_token v46), .int (Rd_value v46), .int (Rd_place v46), .int (Rd_toldRules v46), .int (Rd_toldData v46)]), ((q 1), aB K 700 (Rd_tape v46)), ((q 2), aI K 25 (Rd_words v46)), ((q 3), aI K 75 (Rd_sorts v46)), ((q 4), aI K 3 (Rd_parts v46)), ((q 5), aI K 64 (Rd_wantedPlaces v46)), ((g 0), ob 3 [.ref (g 1), .ref (g 2), .ref (g 3), .ref (g 4), .ref (g 5), .ref (g 6), .ref (g 7), .ref (g 8), .int (Pg_nameCount pr), .int (Pg_size pr), .int (Pg_lines pr)]), ((g 1), aI K 64 (Pg_code pr)), ((g 2), aI K 64 (Pg_first pr)), ((g 3), aI K 64 (Pg_second pr)), ((g 4), aI K 64 (Pg_third pr)), ((g 5), aI K 8 (Pg_rules pr)), ((g 6), aI K 32 (Pg_data pr)), ((g 7), aI K 140 (Pg_names pr)), ((g 8), aI K 140 (Pg_namedPlaces pr))]) (wc := [((q 0), ob 5 [.ref (q 1), .int (Rd_filled v), .int (Rd_fault v), .int (Rd_faultPlace v), .ref (q 2), .ref (q 3), .ref (q 4), .ref (q 5), .int (Rd_limit v), .int (Rd_position v), .int (Rd_token v), .int (Rd_value v), .int (Rd_place v), .int (Rd_toldRules v), .int (Rd_toldData v)]), ((q 1), aB K 700 (Rd_tape v)), ((q 2), aI K 25 (Rd_words v)), ((q 3), aI K 75 (Rd_sorts v)), ((q 4), aI K 3 (Rd_parts v)), ((q 5), aI K 64 (Rd_wantedPlaces v))]) (nn := 6) cx [.int (1 : Int32), .int (Rd_place v)] [] (m_Rd_fail l D K q v (1 : Int32) (Rd_place v) hc47) rfl yv_X6_fail wd_649 ⟨rfl, rfl⟩ (by decide) (fr_s (j := 0) rfl rfl rfl (fr_s (j := 1) rfl rfl rfl (fr_s (j := 2) rfl rfl rfl (fr_s (j := 3) rfl rfl rfl (fr_s (j := 4) rfl rfl rfl (fr_s (j := 5) rfl rfl rfl (fr_k (fr_k (fr_k (fr_k (fr_k (fr_k (fr_k (fr_k (fr_k (fr_n)))))))))))))))) rfl (by decide) 0 rfl rfl rfl (Nat.le_of_ble_eq_true rfl) dX6_readLine_32 ?_
      refine r_goto (pc := 35) (tgt := 86) cx dX6_readLine_35 (by decide) ?_
      refine r_loc (loc' := [(0, .ref (q 0)), (1, .ref (g 0)), (2, .int y1)]) [1, 2, 0] rfl ?_
      exact hJ4 _ hf
  refine r_icmp_ne (pc := 5) (tgt := 19) cx dX6_readLine_5 (by decide) (fun h48 => ?_) (fun h48 => ?_)
  · replace hf := ifn h48 hf
    refine r_iconst (pc := 19) cx dX6_readLine_19 ic_m1 ?_
    exact hJ2 _ hf
  · replace hf := ifp h48 hf
    refine r_aload_n (pc := 8) cx dX6_readLine_8 0 rfl ?_
    refine r_aload_n (pc := 9) cx dX6_readLine_9 0 rfl ?_
    refine r_get (pc := 10) cx cf_X6 0 11 rfl (by decide) rfl wd_263 dX6_readLine_10 ?_
    replace hf := bd_of hf
    obtain ⟨r49, hc50, hf⟩ := hf
    refine r_Vi (pc := 13) (ws' := [((q 0), ob 5 [.ref (q 1), .int (Rd_filled v), .int (Rd_fault v), .int (Rd_faultPlace v), .ref (q 2), .ref (q 3), .ref (q 4), .ref (q 5), .int (Rd_limit v), .int (Rd_position v), .int (Rd_token v), .int (Rd_value v), .int (Rd_place v), .int (Rd_toldRules v), .int (Rd_toldData v)]), ((q 1), aB K 700 (Rd_tape v)), ((q 2), aI K 25 (Rd_words v)), ((q 3), aI K 75 (Rd_sorts v)), ((q 4), aI K 3 (Rd_parts v)), ((q 5), aI K 64 (Rd_wantedPlaces v)), ((g 0), ob 3 [.ref (g 1), .ref (g 2), .ref (g 3), .ref (g 4), .ref (g 5), .ref (g 6), .ref (g 7), .ref (g 8), .int (Pg_nameCount pr), .int (Pg_size pr), .int (Pg_lines pr)]), ((g 1), aI K 64 (Pg_code pr)), ((g 2), aI K 64 (Pg_first pr)), ((g 3), aI K 64 (Pg_second pr)), ((g 4), aI K 64 (Pg_third pr)), ((g 5), aI K 8 (Pg_rules pr)), ((g 6), aI K 32 (Pg_data pr)), ((g 7), aI K 140 (Pg_names pr)), ((g 8), aI K 140 (Pg_namedPlaces pr))]) (wc := [((q 0), ob 5 [.ref (q 1), .int (Rd_filled v), .int (Rd_fault v), .int (Rd_faultPlace v), .ref (q 2), .ref (q 3), .ref (q 4), .ref (q 5), .int (Rd_limit v), .int (Rd_position v), .int (Rd_token v), .int (Rd_value v), .int (Rd_place v), .int (Rd_toldRules v), .int (Rd_toldData v)]), ((q 1), aB K 700 (Rd_tape v)), ((q 2), aI K 25 (Rd_words v)), ((q 3), aI K 75 (Rd_sorts v)), ((q 4), aI K 3 (Rd_parts v)), ((q 5), aI K 64 (Rd_wantedPlaces v))]) (nn := 6) cx [.int (Rd_value v)] [] (m_Rd_wordNumber l D K q v (Rd_value v) hc50) rfl yv_X6_wordNumber wd_645 ⟨rfl, rfl⟩ (by decide) (fr_s (j := 0) rfl rfl rfl (fr_s (j := 1) rfl rfl rfl (fr_s (j := 2) rfl rfl rfl (fr_s (j := 3) rfl rfl rfl (fr_s (j := 4) rfl rfl rfl (fr_s (j := 5) rfl rfl rfl (fr_k (fr_k (fr_k (fr_k (fr_k (fr_k (fr_k (fr_k (fr_k (fr_n)))))))))))))))) rfl (by decide) 0 rfl rfl rfl (Nat.le_of_ble_eq_true rfl) dX6_readLine_13 ?_
    refine r_goto (pc := 16) (tgt := 20) cx dX6_readLine_16 (by decide) ?_
    exact hJ2 _ hf
theorem yv_X6_readLine : YV yX6_readLine cX6_readLine 5 (none) 1 := ⟨⟨by decide +kernel, by decide +kernel, by decide +kernel⟩, wd_644, wd_90, wd_643, wd_5⟩
abbrev rm_Rd_findNames : Room := { frames := 1, cells := 0, slots := 0, locals := 22 }
set_option maxRecDepth 100000 in
set_option maxHeartbeats 4000000 in
theorem m_Rd_findNames (l : Launch) (D : va_G) (K : Nat → ClassId) (q : Nat → Nat) (v : T_Rd) (g : Nat → Nat) (pr : T_Pg) {o_v : T_Rd} {o_pr : T_Pg} (hf : f_Rd_findNames v pr = some (o_v, o_pr)) : MV l yX6_findNames cX6_findNames 4 (none) rm_Rd_findNames D K [.ref (q 0), .ref (g 0)] (cl_Rd K q v ++ (cl_Pg K g pr)) (cl_Rd K q o_v ++ (cl_Pg K g o_pr)) := by
  refine MV_of (loc0 := [(0, .ref (q 0)), (1, .ref (g 0))]) (by decide +kernel) rfl (Nat.le_of_ble_eq_true rfl) ?_
  intro p e s m args below meth c A cx
  unfold f_Rd_findNames at hf
  refine r_ws (ws' := [((q 0), ob 5 [.ref (q 1), .int (Rd_filled v), .int (Rd_fault v), .int (Rd_faultPlace v), .ref (q 2), .ref (q 3), .ref (q 4), .ref (q 5), .int (Rd_limit v), .int (Rd_position v), .int (Rd_token v), .int (Rd_value v), .int (Rd_place v), .int (Rd_toldRules v), .int (Rd_toldData v)]), ((q 1), aB K 700 (Rd_tape v)), ((q 2), aI K 25 (Rd_words v)), ((q 3), aI K 75 (Rd_sorts v)), ((q 4), aI K 3 (Rd_parts v)), ((q 5), aI K 64 (Rd_wantedPlaces v)), ((g 0), ob 3 [.ref (g 1), .ref (g 2), .ref (g 3), .ref (g 4), .ref (g 5), .ref (g 6), .ref (g 7), .ref (g 8), .int (Pg_nameCount pr), .int (Pg_size pr), .int (Pg_lines pr)]), ((g 1), aI K 64 (Pg_code pr)), ((g 2), aI K 64 (Pg_first pr)), ((g 3), aI K 64 (Pg_second pr)), ((g 4), aI K 64 (Pg_third pr)), ((g 5), aI K 8 (Pg_rules pr)), ((g 6), aI K 32 (Pg_data pr)), ((g 7), aI K 140 (Pg_names pr)), ((g 8), aI K 140 (Pg_namedPlaces pr))]) rfl ?_
  refine r_iconst (pc := 0) cx dX6_findNames_0 ic_0 ?_
  refine r_istore_n (pc := 1) (loc' := [(2, .int (0 : Int32)), (0, .ref (q 0)), (1, .ref (g 0))]) cx dX6_findNames_1 rfl (by decide) rfl ?_
  have hL2 : ∀ (k2_74 : (Nat → Int32) → T_Rd → Option (T_Rd × T_Pg)), (∀ (f4 : (Nat → Int32)) (v5 : T_Rd), k2_74 f4 v5 = some (o_v, o_pr) → WW p l e rm_Rd_findNames s m args below meth c D A 4 0 0 (MQ below (QV D K A (cl_Rd K q o_v ++ (cl_Pg K g o_pr))) args s 0 0 A) ([((q 0), ob 5 [.ref (q 1), .int (Rd_filled v5), .int (Rd_fault v5), .int (Rd_faultPlace v5), .ref (q 2), .ref (q 3), .ref (q 4), .ref (q 5), .int (Rd_limit v5), .int (Rd_position v5), .int (Rd_token v5), .int (Rd_value v5), .int (Rd_place v5), .int (Rd_toldRules v5), .int (Rd_toldData v5)]), ((q 1), aB K 700 (Rd_tape v5)), ((q 2), aI K 25 (Rd_words v5)), ((q 3), aI K 75 (Rd_sorts v5)), ((q 4), aI K 3 (Rd_parts v5)), ((q 5), aI K 64 (Rd_wantedPlaces v5)), ((g 0), ob 3 [.ref (g 1), .ref (g 2), .ref (g 3), .ref (g 4), .ref (g 5), .ref (g 6), .ref (g 7), .ref (g 8), .int (Pg_nameCount pr), .int (Pg_size pr), .int (Pg_lines pr)]), ((g 1), aI K 64 (Pg_code pr)), ((g 2), aI K 64 (Pg_first pr)), ((g 3), aI K 64 (Pg_second pr)), ((g 4), aI K 64 f4), ((g 5), aI K 8 (Pg_rules pr)), ((g 6), aI K 32 (Pg_data pr)), ((g 7), aI K 140 (Pg_names pr)), ((g 8), aI K 140 (Pg_namedPlaces pr))]) ([]) ([]) 74) → ∀ (n2 : Nat) (x1 : Int32) (f2 : (Nat → Int32)) (v3 : T_Rd), f_Rd_findNames_L2 pr k2_74 n2 x1 f2 v3 = some (o_v, o_pr) → WW p l e rm_Rd_findNames s m args below meth c D A 4 0 0 (MQ below (QV D K A (cl_Rd K q o_v ++ (cl_Pg K g o_pr))) args s 0 0 A) ([((q 0), ob 5 [.ref (q 1), .int (Rd_filled v3), .int (Rd_fault v3), .int (Rd_faultPlace v3), .ref (q 2), .ref (q 3), .ref (q 4), .ref (q 5), .int (Rd_limit v3), .int (Rd_position v3), .int (Rd_token v3), .int (Rd_value v3), .int (Rd_place v3), .int (Rd_toldRules v3), .int (Rd_toldData v3)]), ((q 1), aB K 700 (Rd_tape v3)), ((q 2), aI K 25 (Rd_words v3)), ((q 3), aI K 75 (Rd_sorts v3)), ((q 4), aI K 3 (Rd_parts v3)), ((q 5), aI K 64 (Rd_wantedPlaces v3)), ((g 0), ob 3 [.ref (g 1), .ref (g 2), .ref (g 3), .ref (g 4), .ref (g 5), .ref (g 6), .ref (g 7), .ref (g 8), .int (Pg_nameCount pr), .int (Pg_size pr), .int (Pg_lines pr)]), ((g 1), aI K 64 (Pg_code pr)), ((g 2), aI K 64 (Pg_first pr)), ((g 3), aI K 64 (Pg_second pr)), ((g 4), aI K 64 f2), ((g 5), aI K 8 (Pg_rules pr)), ((g 6), aI K 32 (Pg_data pr)), ((g 7), aI K 140 (Pg_names pr)), ((g 8), aI K 140 (Pg_namedPlaces pr))]) ([(0, .ref (q 0)), (1, .ref (g 0)), (2, .int x1)]) ([]) 2 := by
    clear hf
    intro k2_74 hk2_74 n2
    induction n2 with
    | zero => intro x1 f2 v3 hf; exact (nomatch (show (none : Option (T_Rd × T_Pg)) = some _ from hf))
    | succ n2 ih2 =>
      intro x1 f2 v3 hf
      rw [f_Rd_findNames_L2] at hf
      refine r_iload_n (pc := 2) cx dX6_findNames_2 2 rfl ?_
      refine r_aload_n (pc := 3) cx dX6_findNames_3 1 rfl ?_
      refine r_get (pc := 4) cx cf_X4 6 9 rfl (by decide) rfl wd_156 dX6_findNames_4 ?_
      refine r_icmp_ge (pc := 7) (tgt := 74) cx dX6_findNames_7 (by decide) (fun h6 => ?_) (fun h6 => ?_)
      · replace hf := ifp h6 hf
        refine r_loc (loc' := []) [] rfl ?_
        exact hk2_74 _ _ hf
      · replace hf := ifn h6 hf
        refine r_iload_n (pc := 10) cx dX6_findNames_10 2 rfl ?_
        refine r_bipush (pc := 11) cx dX6_findNames_11 bp_40 ?_
        refine r_icmp_ge (pc := 13) (tgt := 74) cx dX6_findNames_13 (by decide) (fun h7 => ?_) (fun h7 => ?_)
        · replace hf := ifp h7 hf
          refine r_loc (loc' := []) [] rfl ?_
          exact hk2_74 _ _ hf
        · replace hf := ifn h7 hf
          refine r_aload_n (pc := 16) cx dX6_findNames_16 0 rfl ?_
          refine r_get (pc := 17) cx cf_X6 0 2 rfl (by decide) rfl wd_253 dX6_findNames_17 ?_
          refine r_if_ne (pc := 20) (tgt := 74) cx dX6_findNames_20 (by decide) (fun h8 => ?_) (fun h8 => ?_)
          · replace hf := ifn h8 hf
            refine r_loc (loc' := []) [] rfl ?_
            exact hk2_74 _ _ hf
          · replace hf := ifp h8 hf
            refine r_aload_n (pc := 23) cx dX6_findNames_23 1 rfl ?_
            refine r_get (pc := 24) cx cf_X4 6 0 rfl (by decide) rfl wd_134 dX6_findNames_24 ?_
            refine r_iload_n (pc := 27) cx dX6_findNames_27 2 rfl ?_
            replace hf := chk_of hf
            obtain ⟨h9, hf⟩ := hf
            refine r_iald (pc := 28) cx 7 rfl h9 dX6_findNames_28 ?_
            refine r_bipush (pc := 29) cx dX6_findNames_29 bp_14 ?_
            refine r_icmp_lt (pc := 31) (tgt := 68) cx dX6_findNames_31 (by decide) (fun h10 => ?_) (fun h10 => ?_)
            · replace hf := ifp h10 hf
              replace hf := nm_of hf
              obtain ⟨x11, ex11, hf⟩ := hf
              refine r_iinc (pc := 68) (loc' := [(2, .int x11), (0, .ref (q 0)), (1, .ref (g 0))]) (v := x11) cx dX6_findNames_68 2 rfl ((congrArg (fun z => x1 + z) ic_1).trans ex11.symm) (by decide) rfl ?_
              refine r_goto (pc := 71) (tgt := 2) cx dX6_findNames_71 (by decide) ?_
              refine r_loc (loc' := [(0, .ref (q 0)), (1, .ref (g 0)), (2, .int x11)]) [1, 2, 0] rfl ?_
              exact ih2 _ _ _ hf
            · replace hf := ifn h10 hf
              refine r_aload_n (pc := 34) cx dX6_findNames_34 1 rfl ?_
              refine r_aload_n (pc := 35) cx dX6_findNames_35 1 rfl ?_
              refine r_get (pc := 36) cx cf_X4 6 3 rfl (by decide) rfl wd_142 dX6_findNames_36 ?_
              refine r_iload_n (pc := 39) cx dX6_findNames_39 2 rfl ?_
              replace hf := chk_of hf
              obtain ⟨h12, hf⟩ := hf
              refine r_iald (pc := 40) cx 10 rfl h12 dX6_findNames_40 ?_
              replace hf := bd_of hf
              obtain ⟨r13, hc14, hf⟩ := hf
              refine r_Vi (pc := 41) (ws' := [((q 0), ob 5 [.ref (q 1), .int (Rd_filled v3), .int (Rd_fault v3), .int (Rd_faultPlace v3), .ref (q 2), .ref (q 3), .ref (q 4), .ref (q 5), .int (Rd_limit v3), .int (Rd_position v3), .int (Rd_token v3), .int (Rd_value v3), .int (Rd_place v3), .int (Rd_toldRules v3), .int (Rd_toldData v3)]), ((q 1), aB K 700 (Rd_tape v3)), ((q 2), aI K 25 (Rd_words v3)), ((q 3), aI K 75 (Rd_sorts v3)), ((q 4), aI K 3 (Rd_parts v3)), ((q 5), aI K 64 (Rd_wantedPlaces v3)), ((g 0), ob 3 [.ref (g 1), .ref (g 2), .ref (g 3), .ref (g 4), .ref (g 5), .ref (g 6), .ref (g 7), .ref (g 8), .int (Pg_nameCount pr), .int (Pg_size pr), .int (Pg_lines pr)]), ((g 1), aI K 64 (Pg_code pr)), ((g 2), aI K 64 (Pg_first pr)), ((g 3), aI K 64 (Pg_second pr)), ((g 4), aI K 64 f2), ((g 5), aI K 8 (Pg_rules pr)), ((g 6), aI K 32 (Pg_data pr)), ((g 7), aI K 140 (Pg_names pr)), ((g 8), aI K 140 (Pg_namedPlaces pr))]) (wc := [((g 0), ob 3 [.ref (g 1), .ref (g 2), .ref (g 3), .ref (g 4), .ref (g 5), .ref (g 6), .ref (g 7), .ref (g 8), .int (Pg_nameCount pr), .int (Pg_size pr), .int (Pg_lines pr)]), ((g 1), aI K 64 (Pg_code pr)), ((g 2), aI K 64 (Pg_first pr)), ((g 3), aI K 64 (Pg_second pr)), ((g 4), aI K 64 f2), ((g 5), aI K 8 (Pg_rules pr)), ((g 6), aI K 32 (Pg_data pr)), ((g 7), aI K 140 (Pg_names pr)), ((g 8), aI K 140 (Pg_namedPlaces pr))]) (nn := 9) cx [.int (f2 x1.toNatClampNeg)] [] (m_Pg_placeOf l D K g ((Pg_code pr), (Pg_first pr), (Pg_second pr), f2, (Pg_rules pr), (Pg_data pr), (Pg_names pr), (Pg_namedPlaces pr), (Pg_nameCount pr), (Pg_size pr), (Pg_lines pr)) (f2 x1.toNatClampNeg) hc14) (by (try simp only [cl_Pg, Pg_code_mk, Pg_first_mk, Pg_second_mk, Pg_third_mk, Pg_rules_mk, Pg_data_mk, Pg_names_mk, Pg_namedPlaces_mk, Pg_nameCount_mk, Pg_size_mk, Pg_lines_mk, List.cons_append, List.nil_append, List.append_nil]) <;> rfl) yv_X4_placeOf wd_665 ⟨rfl, rfl⟩ (by decide) (fr_k (fr_k (fr_k (fr_k (fr_k (fr_k (fr_s (j := 0) rfl rfl rfl (fr_s (j := 1) rfl rfl rfl (fr_s (j := 2) rfl rfl rfl (fr_s (j := 3) rfl rfl rfl (fr_s (j := 4) rfl rfl rfl (fr_s (j := 5) rfl rfl rfl (fr_s (j := 6) rfl rfl rfl (fr_s (j := 7) rfl rfl rfl (fr_s (j := 8) rfl rfl rfl (fr_n)))))))))))))))) rfl (by decide) 6 rfl rfl rfl (Nat.le_of_ble_eq_true rfl) dX6_findNames_41 ?_
              refine r_istore_n (pc := 44) (loc' := [(3, .int r13), (0, .ref (q 0)), (1, .ref (g 0)), (2, .int x1)]) cx dX6_findNames_44 rfl (by decide) rfl ?_
              refine r_iload_n (pc := 45) cx dX6_findNames_45 0 rfl ?_
              refine r_iconst (pc := 46) cx dX6_findNames_46 ic_m1 ?_
              refine r_icmp_ne (pc := 47) (tgt := 61) cx dX6_findNames_47 (by decide) (fun h15 => ?_) (fun h15 => ?_)
              · replace hf := ifn h15 hf
                refine r_aload_n (pc := 61) cx dX6_findNames_61 2 rfl ?_
                refine r_get (pc := 62) cx cf_X4 6 3 rfl (by decide) rfl wd_142 dX6_findNames_62 ?_
                refine r_iload_n (pc := 65) cx dX6_findNames_65 3 rfl ?_
                refine r_iload_n (pc := 66) cx dX6_findNames_66 0 rfl ?_
                replace hf := chk_of hf
                obtain ⟨h16, hf⟩ := hf
                replace hf := nm_of hf
                obtain ⟨f17, ef17, hf⟩ := hf
                refine r_iast (pc := 67) (ws' := [((q 0), ob 5 [.ref (q 1), .int (Rd_filled v3), .int (Rd_fault v3), .int (Rd_faultPlace v3), .ref (q 2), .ref (q 3), .ref (q 4), .ref (q 5), .int (Rd_limit v3), .int (Rd_position v3), .int (Rd_token v3), .int (Rd_value v3), .int (Rd_place v3), .int (Rd_toldRules v3), .int (Rd_toldData v3)]), ((q 1), aB K 700 (Rd_tape v3)), ((q 2), aI K 25 (Rd_words v3)), ((q 3), aI K 75 (Rd_sorts v3)), ((q 4), aI K 3 (Rd_parts v3)), ((q 5), aI K 64 (Rd_wantedPlaces v3)), ((g 0), ob 3 [.ref (g 1), .ref (g 2), .ref (g 3), .ref (g 4), .ref (g 5), .ref (g 6), .ref (g 7), .ref (g 8), .int (Pg_nameCount pr), .int (Pg_size pr), .int (Pg_lines pr)]), ((g 1), aI K 64 (Pg_code pr)), ((g 2), aI K 64 (Pg_first pr)), ((g 3), aI K 64 (Pg_second pr)), ((g 4), aI K 64 f17), ((g 5), aI K 8 (Pg_rules pr)), ((g 6), aI K 32 (Pg_data pr)), ((g 7), aI K 140 (Pg_names pr)), ((g 8), aI K 140 (Pg_namedPlaces pr))]) cx 10 rfl h16 dX6_findNames_67 ef17 rfl ?_
                replace hf := nm_of hf
                obtain ⟨x18, ex18, hf⟩ := hf
                refine r_iinc (pc := 68) (loc' := [(2, .int x18), (3, .int r13), (0, .ref (q 0)), (1, .ref (g 0))]) (v := x18) cx dX6_findNames_68 3 rfl ((congrArg (fun z => x1 + z) ic_1).trans ex18.symm) (by decide) rfl ?_
                refine r_goto (pc := 71) (tgt := 2) cx dX6_findNames_71 (by decide) ?_
                refine r_loc (loc' := [(0, .ref (q 0)), (1, .ref (g 0)), (2, .int x18)]) [2, 3, 0] rfl ?_
                exact ih2 _ _ _ hf
              · replace hf := ifp h15 hf
                refine r_aload_n (pc := 50) cx dX6_findNames_50 1 rfl ?_
                refine r_iconst (pc := 51) cx dX6_findNames_51 ic_4 ?_
                refine r_aload_n (pc := 52) cx dX6_findNames_52 1 rfl ?_
                refine r_get (pc := 53) cx cf_X6 0 7 rfl (by decide) rfl wd_259 dX6_findNames_53 ?_
                refine r_iload_n (pc := 56) cx dX6_findNames_56 3 rfl ?_
                replace hf := chk_of hf
                obtain ⟨h19, hf⟩ := hf
                refine r_iald (pc := 57) cx 5 rfl h19 dX6_findNames_57 ?_
                replace hf := bd_of hf
                obtain ⟨v20, hc21, hf⟩ := hf
                refine r_Vv (pc := 58) (ws' := [((q 0), ob 5 [.ref (q 1), .int (Rd_filled v20), .int (Rd_fault v20), .int (Rd_faultPlace v20), .ref (q 2), .ref (q 3), .ref (q 4), .ref (q 5), .int (Rd_limit v20), .int (Rd_position v20), .int (Rd_token v20), .int (Rd_value v20), .int (Rd_place v20), .int (Rd_toldRules v20), .int (Rd_toldData v20)]), ((q 1), aB K 700 (Rd_tape v20)), ((q 2), aI K 25 (Rd_words v20)), ((q 3), aI K 75 (Rd_sorts v20)), ((q 4), aI K 3 (Rd_parts v20)), ((q 5), aI K 64 (Rd_wantedPlaces v20)), ((g 0), ob 3 [.ref (g 1), .ref (g 2), .ref (g 3), .ref (g 4), .ref (g 5), .ref (g 6), .ref (g 7), .ref (g 8), .int (Pg_nameCount pr), .int (Pg_size pr), .int (Pg_lines pr)]), ((g 1), aI K 64 (Pg_code pr)), ((g 2), aI K 64 (Pg_first pr)), ((g 3), aI K 64 (Pg_second pr)), ((g 4), aI K 64 f2), ((g 5), aI K 8 (Pg_rules pr)), ((g 6), aI K 32 (Pg_data pr)), ((g 7), aI K 140 (Pg_names pr)), ((g 8), aI K 140 (Pg_namedPlaces pr))]) (wc := [((q 0), ob 5 [.ref (q 1), .int (Rd_filled v3), .int (Rd_fault v3), .int (Rd_faultPlace v3), .ref (q 2), .ref (q 3), .ref (q 4), .ref (q 5), .int (Rd_limit v3), .int (Rd_position v3), .int (Rd_token v3), .int (Rd_value v3), .int (Rd_place v3), .int (Rd_toldRules v3), .int (Rd_toldData v3)]), ((q 1), aB K 700 (Rd_tape v3)), ((q 2), aI K 25 (Rd_words v3)), ((q 3), aI K 75 (Rd_sorts v3)), ((q 4), aI K 3 (Rd_parts v3)), ((q 5), aI K 64 (Rd_wantedPlaces v3))]) (nn := 6) cx [.int (4 : Int32), .int ((Rd_wantedPlaces v3) x1.toNatClampNeg)] [] (m_Rd_fail l D K q v3 (4 : Int32) ((Rd_wantedPlaces v3) x1.toNatClampNeg) hc21) rfl yv_X6_fail wd_649 ⟨rfl, rfl⟩ (by decide) (fr_s (j := 0) rfl rfl rfl (fr_s (j := 1) rfl rfl rfl (fr_s (j := 2) rfl rfl rfl (fr_s (j := 3) rfl rfl rfl (fr_s (j := 4) rfl rfl rfl (fr_s (j := 5) rfl rfl rfl (fr_k (fr_k (fr_k (fr_k (fr_k (fr_k (fr_k (fr_k (fr_k (fr_n)))))))))))))))) rfl (by decide) 0 rfl rfl rfl (Nat.le_of_ble_eq_true rfl) dX6_findNames_58 ?_
                refine r_aload_n (pc := 61) cx dX6_findNames_61 2 rfl ?_
                refine r_get (pc := 62) cx cf_X4 6 3 rfl (by decide) rfl wd_142 dX6_findNames_62 ?_
                refine r_iload_n (pc := 65) cx dX6_findNames_65 3 rfl ?_
                refine r_iload_n (pc := 66) cx dX6_findNames_66 0 rfl ?_
                replace hf := chk_of hf
                obtain ⟨h22, hf⟩ := hf
                replace hf := nm_of hf
                obtain ⟨f23, ef23, hf⟩ := hf
                refine r_iast (pc := 67) (ws' := [((q 0), ob 5 [.ref (q 1), .int (Rd_filled v20), .int (Rd_fault v20), .int (Rd_faultPlace v20), .ref (q 2), .ref (q 3), .ref (q 4), .ref (q 5), .int (Rd_limit v20), .int (Rd_position v20), .int (Rd_token v20), .int (Rd_value v20), .int (Rd_place v20), .int (Rd_toldRules v20), .int (Rd_toldData v20)]), ((q 1), aB K 700 (Rd_tape v20)), ((q 2), aI K 25 (Rd_words v20)), ((q 3), aI K 75 (Rd_sorts v20)), ((q 4), aI K 3 (Rd_parts v20)), ((q 5), aI K 64 (Rd_wantedPlaces v20)), ((g 0), ob 3 [.ref (g 1), .ref (g 2), .ref (g 3), .ref (g 4), .ref (g 5), .ref (g 6), .ref (g 7), .ref (g 8), .int (Pg_nameCount pr), .int (Pg_size pr), .int (Pg_lines pr)]), ((g 1), aI K 64 (Pg_code pr)), ((g 2), aI K 64 (Pg_first pr)), ((g 3), aI K 64 (Pg_second pr)), ((g 4), aI K 64 f23), ((g 5), aI K 8 (Pg_rules pr)), ((g 6), aI K 32 (Pg_data pr)), ((g 7), aI K 140 (Pg_names pr)), ((g 8), aI K 140 (Pg_namedPlaces pr))]) cx 10 rfl h22 dX6_findNames_67 ef23 rfl ?_
                replace hf := nm_of hf
                obtain ⟨x24, ex24, hf⟩ := hf
                refine r_iinc (pc := 68) (loc' := [(2, .int x24), (3, .int r13), (0, .ref (q 0)), (1, .ref (g 0))]) (v := x24) cx dX6_findNames_68 3 rfl ((congrArg (fun z => x1 + z) ic_1).trans ex24.symm) (by decide) rfl ?_
                refine r_goto (pc := 71) (tgt := 2) cx dX6_findNames_71 (by decide) ?_
                refine r_loc (loc' := [(0, .ref (q 0)), (1, .ref (g 0)), (2, .int x24)]) [2, 3, 0] rfl ?_
                exact ih2 _ _ _ hf
  refine r_loc (loc' := [(0, .ref (q 0)), (1, .ref (g 0)), (2, .int (0 : Int32))]) [1, 2, 0] rfl ?_
  refine hL2 _ (fun f4 v5 hf => ?_) _ _ _ _ hf
  have hi := inj2 hf
  exact r_vret (pc := 74) cx (by rw [← hi.1, ← hi.2]; (try simp only [cl_Rd, Rd_tape_mk, Rd_filled_mk, Rd_fault_mk, Rd_faultPlace_mk, Rd_words_mk, Rd_sorts_mk, Rd_parts_mk, Rd_wantedPlaces_mk, Rd_limit_mk, Rd_position_mk, Rd_token_mk, Rd_value_mk, Rd_place_mk, Rd_toldRules_mk, Rd_toldData_mk, cl_Pg, Pg_code_mk, Pg_first_mk, Pg_second_mk, Pg_third_mk, Pg_rules_mk, Pg_data_mk, Pg_names_mk, Pg_namedPlaces_mk, Pg_nameCount_mk, Pg_size_mk, Pg_lines_mk, List.cons_append, List.nil_append, List.append_nil]) <;> rfl) dX6_findNames_74
theorem yv_X6_findNames : YV yX6_findNames cX6_findNames 4 (none) 1 := ⟨⟨by decide +kernel, by decide +kernel, by decide +kernel⟩, wd_695, wd_90, wd_694, wd_13⟩
