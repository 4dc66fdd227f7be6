abbrev rm_Rd_wordNumber : Room := { frames := 0, cells := 0, slots := 0, locals := 0 }
set_option maxRecDepth 100000 in
set_option maxHeartbeats 4000000 in
theorem m_Rd_wordNumber (l : Launch) (D : va_G) (K : Nat → ClassId) (q : Nat → Nat) (v : T_Rd) (a1 : Int32) {r_ : Int32} (hf : f_Rd_wordNumber v a1 = some r_) : MI l yX6_wordNumber cX6_wordNumber 3 (some .int) rm_Rd_wordNumber D K [.ref (q 0), .int a1] (cl_Rd K q v) r_ (cl_Rd K q v) := by
  refine MI_of (loc0 := [(0, .ref (q 0)), (1, .int a1)]) (by decide +kernel) rfl (Nat.le_of_ble_eq_true rfl) ?_
  intro p e s m args below meth c A cx
  unfold f_Rd_wordNumber at hf
  refine r_ws (ws' := [((q 0), ob 5 [.ref (q 1), .int (Rd_filled v), .int (Rd_fault v), .int (Rd_faultPlace v), .ref (q 2), .ref (q 3), .ref (q 4), .ref (q 5), .int (Rd_limit v), .int (Rd_position v), .int (Rd_token v), .int (Rd_value v), .int (Rd_place v), .int (Rd_toldRules v), .int (Rd_toldData v)]), ((q 1), aB K 700 (Rd_tape v)), ((q 2), aI K 25 (Rd_words v)), ((q 3), aI K 75 (Rd_sorts v)), ((q 4), aI K 3 (Rd_parts v)), ((q 5), aI K 64 (Rd_wantedPlaces v))]) rfl ?_
  refine r_iconst (pc := 0) cx dX6_wordNumber_0 ic_0 ?_
  refine r_istore_n (pc := 1) (loc' := [(2, .int (0 : Int32)), (0, .ref (q 0)), (1, .int a1)]) cx dX6_wordNumber_1 rfl (by decide) rfl ?_
  have hL2 : ∀ (k2_18 : Int32 → Option (Int32)) (k2_26 : Option (Int32)), (∀ (x2 : Int32), k2_18 x2 = some r_ → WW p l e rm_Rd_wordNumber s m args below meth c D A 3 0 0 (MQ below (QI D K A r_ (cl_Rd K q v)) args s 0 0 A) ([((q 0), ob 5 [.ref (q 1), .int (Rd_filled v), .int (Rd_fault v), .int (Rd_faultPlace v), .ref (q 2), .ref (q 3), .ref (q 4), .ref (q 5), .int (Rd_limit v), .int (Rd_position v), .int (Rd_token v), .int (Rd_value v), .int (Rd_place v), .int (Rd_toldRules v), .int (Rd_toldData v)]), ((q 1), aB K 700 (Rd_tape v)), ((q 2), aI K 25 (Rd_words v)), ((q 3), aI K 75 (Rd_sorts v)), ((q 4), aI K 3 (Rd_parts v)), ((q 5), aI K 64 (Rd_wantedPlaces v))]) ([(2, .int x2)]) ([]) 18) → (k2_26 = some r_ → WW p l e rm_Rd_wordNumber s m args below meth c D A 3 0 0 (MQ below (QI D K A r_ (cl_Rd K q v)) args s 0 0 A) ([((q 0), ob 5 [.ref (q 1), .int (Rd_filled v), .int (Rd_fault v), .int (Rd_faultPlace v), .ref (q 2), .ref (q 3), .ref (q 4), .ref (q 5), .int (Rd_limit v), .int (Rd_position v), .int (Rd_token v), .int (Rd_value v), .int (Rd_place v), .int (Rd_toldRules v), .int (Rd_toldData v)]), ((q 1), aB K 700 (Rd_tape v)), ((q 2), aI K 25 (Rd_words v)), ((q 3), aI K 75 (Rd_sorts v)), ((q 4), aI K 3 (Rd_parts v)), ((q 5), aI K 64 (Rd_wantedPlaces v))]) ([]) ([]) 26) → ∀ (n2 : Nat) (x1 : Int32), f_Rd_wordNumber_L2 v a1 k2_18 k2_26 n2 x1 = some r_ → WW p l e rm_Rd_wordNumber s m args below meth c D A 3 0 0 (MQ below (QI D K A r_ (cl_Rd K q v)) args s 0 0 A) ([((q 0), ob 5 [.ref (q 1), .int (Rd_filled v), .int (Rd_fault v), .int (Rd_faultPlace v), .ref (q 2), .ref (q 3), .ref (q 4), .ref (q 5), .int (Rd_limit v), .int (Rd_position v), .int (Rd_token v), .int (Rd_value v), .int (Rd_place v), .int (Rd_toldRules v), .int (Rd_toldData v)]), ((q 1), aB K 700 (Rd_tape v)), ((q 2), aI K 25 (Rd_words v)), ((q 3), aI K 75 (Rd_sorts v)), ((q 4), aI K 3 (Rd_parts v)), ((q 5), aI K 64 (Rd_wantedPlaces v))]) ([(0, .ref (q 0)), (1, .int a1), (2, .int x1)]) ([]) 2 := by
    clear hf
    intro k2_18 k2_26 hk2_18 hk2_26 n2
    induction n2 with
    | zero => intro x1 hf; exact (nomatch (show (none : Option (Int32)) = some _ from hf))
    | succ n2 ih2 =>
      intro x1 hf
      rw [f_Rd_wordNumber_L2] at hf
      refine r_iload_n (pc := 2) cx dX6_wordNumber_2 2 rfl ?_
      refine r_bipush (pc := 3) cx dX6_wordNumber_3 bp_25 ?_
      refine r_icmp_ge (pc := 5) (tgt := 26) cx dX6_wordNumber_5 (by decide) (fun h3 => ?_) (fun h3 => ?_)
      · replace hf := ifp h3 hf
        refine r_loc (loc' := []) [] rfl ?_
        exact hk2_26 hf
      · replace hf := ifn h3 hf
        refine r_aload_n (pc := 8) cx dX6_wordNumber_8 0 rfl ?_
        refine r_get (pc := 9) cx cf_X6 0 4 rfl (by decide) rfl wd_256 dX6_wordNumber_9 ?_
        refine r_iload_n (pc := 12) cx dX6_wordNumber_12 2 rfl ?_
        replace hf := chk_of hf
        obtain ⟨h4, hf⟩ := hf
        refine r_iald (pc := 13) cx 2 rfl h4 dX6_wordNumber_13 ?_
        refine r_iload_n (pc := 14) cx dX6_wordNumber_14 1 rfl ?_
        refine r_icmp_ne (pc := 15) (tgt := 20) cx dX6_wordNumber_15 (by decide) (fun h5 => ?_) (fun h5 => ?_)
        · replace hf := ifn h5 hf
          replace hf := nm_of hf
          obtain ⟨x6, ex6, hf⟩ := hf
          refine r_iinc (pc := 20) (loc' := [(2, .int x6), (0, .ref (q 0)), (1, .int a1)]) (v := x6) cx dX6_wordNumber_20 2 rfl ((congrArg (fun z => x1 + z) ic_1).trans ex6.symm) (by decide) rfl ?_
          refine r_goto (pc := 23) (tgt := 2) cx dX6_wordNumber_23 (by decide) ?_
          refine r_loc (loc' := [(0, .ref (q 0)), (1, .int a1), (2, .int x6)]) [1, 2, 0] rfl ?_
          exact ih2 _ hf
        · replace hf := ifp h5 hf
          refine r_loc (loc' := [(2, .int x1)]) [2] rfl ?_
          exact hk2_18 _ hf
  refine r_loc (loc' := [(0, .ref (q 0)), (1, .int a1), (2, .int (0 : Int32))]) [1, 2, 0] rfl ?_
  refine hL2 _ _ (fun x2 hf => ?_) (fun hf => ?_) _ _ hf
  · refine r_iload_n (pc := 18) cx dX6_wordNumber_18 0 rfl ?_
    have hi := inj1 hf
    exact r_iret (pc := 19) cx hi rfl dX6_wordNumber_19
  · refine r_iconst (pc := 26) cx dX6_wordNumber_26 ic_m1 ?_
    have hi := inj1 hf
    exact r_iret (pc := 27) cx hi rfl dX6_wordNumber_27
theorem yv_X6_wordNumber : YV yX6_wordNumber cX6_wordNumber 3 (some .int) 1 := ⟨⟨by decide +kernel, by decide +kernel, by decide +kernel⟩, wd_648, wd_90, wd_647, wd_6⟩
abbrev rm_Rd_fail : Room := { frames := 0, cells := 0, slots := 0, locals := 0 }
set_option maxRecDepth 100000 in
set_option maxHeartbeats 4000000 in
theorem m_Rd_fail (l : Launch) (D : va_G) (K : Nat → ClassId) (q : Nat → Nat) (v : T_Rd) (a1 : Int32) (a2 : Int32) {o_v : T_Rd} (hf : f_Rd_fail v a1 a2 = some o_v) : MV l yX6_fail cX6_fail 3 (none) rm_Rd_fail D K [.ref (q 0), .int a1, .int a2] (cl_Rd K q v) (cl_Rd K q o_v) := by
  refine MV_of (loc0 := [(0, .ref (q 0)), (1, .int a1), (2, .int a2)]) (by decide +kernel) rfl (Nat.le_of_ble_eq_true rfl) ?_
  intro p e s m args below meth c A cx
  unfold f_Rd_fail at hf
  refine r_ws (ws' := [((q 0), ob 5 [.ref (q 1), .int (Rd_filled v), .int (Rd_fault v), .int (Rd_faultPlace v), .ref (q 2), .ref (q 3), .ref (q 4), .ref (q 5), .int (Rd_limit v), .int (Rd_position v), .int (Rd_token v), .int (Rd_value v), .int (Rd_place v), .int (Rd_toldRules v), .int (Rd_toldData v)]), ((q 1), aB K 700 (Rd_tape v)), ((q 2), aI K 25 (Rd_words v)), ((q 3), aI K 75 (Rd_sorts v)), ((q 4), aI K 3 (Rd_parts v)), ((q 5), aI K 64 (Rd_wantedPlaces v))]) rfl ?_
  refine r_aload_n (pc := 0) cx dX6_fail_0 0 rfl ?_
  refine r_iload_n (pc := 1) cx dX6_fail_1 1 rfl ?_
  refine r_putI (pc := 2) (ws' := [((q 0), ob 5 [.ref (q 1), .int (Rd_filled v), .int a1, .int (Rd_faultPlace v), .ref (q 2), .ref (q 3), .ref (q 4), .ref (q 5), .int (Rd_limit v), .int (Rd_position v), .int (Rd_token v), .int (Rd_value v), .int (Rd_place v), .int (Rd_toldRules v), .int (Rd_toldData v)]), ((q 1), aB K 700 (Rd_tape v)), ((q 2), aI K 25 (Rd_words v)), ((q 3), aI K 75 (Rd_sorts v)), ((q 4), aI K 3 (Rd_parts v)), ((q 5), aI K 64 (Rd_wantedPlaces v))]) cx cf_X6 0 2 rfl (by decide) (Nat.le_of_ble_eq_true rfl) rfl pfd_I wd_253 dX6_fail_2 rfl ?_
  refine r_aload_n (pc := 5) cx dX6_fail_5 0 rfl ?_
  refine r_iload_n (pc := 6) cx dX6_fail_6 2 rfl ?_
  refine r_putI (pc := 7) (ws' := [((q 0), ob 5 [.ref (q 1), .int (Rd_filled v), .int a1, .int a2, .ref (q 2), .ref (q 3), .ref (q 4), .ref (q 5), .int (Rd_limit v), .int (Rd_position v), .int (Rd_token v), .int (Rd_value v), .int (Rd_place v), .int (Rd_toldRules v), .int (Rd_toldData v)]), ((q 1), aB K 700 (Rd_tape v)), ((q 2), aI K 25 (Rd_words v)), ((q 3), aI K 75 (Rd_sorts v)), ((q 4), aI K 3 (Rd_parts v)), ((q 5), aI K 64 (Rd_wantedPlaces v))]) cx cf_X6 0 3 rfl (by decide) (Nat.le_of_ble_eq_true rfl) rfl pfd_I wd_254 dX6_fail_7 rfl ?_
  have hi := inj1 hf
  exact r_vret (pc := 10) cx (by rw [← hi]; (try simp only [cl_Rd, Rd_tape_mk, Rd_filled_mk, Rd_fault_mk, Rd_faultPlace_mk, Rd_words_mk, Rd_sorts_mk, Rd_parts_mk, Rd_wantedPlaces_mk, Rd_limit_mk, Rd_position_mk, Rd_token_mk, Rd_value_mk, Rd_place_mk, Rd_toldRules_mk, Rd_toldData_mk, List.cons_append, List.nil_append, List.append_nil]) <;> rfl) dX6_fail_10
theorem yv_X6_fail : YV yX6_fail cX6_fail 3 (none) 2 := ⟨⟨by decide +kernel, by decide +kernel, by decide +kernel⟩, wd_652, wd_90, wd_651, wd_7⟩
abbrev rm_Rd_sortOf : Room := { frames := 0, cells := 0, slots := 0, locals := 0 }
set_option maxRecDepth 100000 in
set_option maxHeartbeats 4000000 in
theorem m_Rd_sortOf (l : Launch) (D : va_G) (K : Nat → ClassId) (q : Nat → Nat) (v : T_Rd) (a1 : Int32) (a2 : Int32) {r_ : Int32} (hf : f_Rd_sortOf v a1 a2 = some r_) : MI l yX6_sortOf cX6_sortOf 4 (some .int) rm_Rd_sortOf D K [.ref (q 0), .int a1, .int a2] (cl_Rd K q v) r_ (cl_Rd K q v) := by
  refine MI_of (loc0 := [(0, .ref (q 0)), (1, .int a1), (2, .int a2)]) (by decide +kernel) rfl (Nat.le_of_ble_eq_true rfl) ?_
  intro p e s m args below meth c A cx
  unfold f_Rd_sortOf at hf
  refine r_ws (ws' := [((q 0), ob 5 [.ref (q 1), .int (Rd_filled v), .int (Rd_fault v), .int (Rd_faultPlace v), .ref (q 2), .ref (q 3), .ref (q 4), .ref (q 5), .int (Rd_limit v), .int (Rd_position v), .int (Rd_token v), .int (Rd_value v), .int (Rd_place v), .int (Rd_toldRules v), .int (Rd_toldData v)]), ((q 1), aB K 700 (Rd_tape v)), ((q 2), aI K 25 (Rd_words v)), ((q 3), aI K 75 (Rd_sorts v)), ((q 4), aI K 3 (Rd_parts v)), ((q 5), aI K 64 (Rd_wantedPlaces v))]) rfl ?_
  refine r_iload_n (pc := 0) cx dX6_sortOf_0 1 rfl ?_
  refine r_iconst (pc := 1) cx dX6_sortOf_1 ic_3 ?_
  refine r_imul (pc := 2) cx dX6_sortOf_2 ?_
  refine r_iload_n (pc := 3) cx dX6_sortOf_3 2 rfl ?_
  refine r_iadd (pc := 4) cx dX6_sortOf_4 ?_
  replace hf := nm_of hf
  obtain ⟨x1, ex1, hf⟩ := hf
  refine r_nm ex1 ?_
  refine r_istore_n (pc := 5) (loc' := [(3, .int x1), (0, .ref (q 0)), (1, .int a1), (2, .int a2)]) cx dX6_sortOf_5 rfl (by decide) rfl ?_
  refine r_iload_n (pc := 6) cx dX6_sortOf_6 0 rfl ?_
  refine r_if_lt (pc := 7) (tgt := 28) cx dX6_sortOf_7 (by decide) (fun h2 => ?_) (fun h2 => ?_)
  · replace hf := ifp h2 hf
    refine r_bipush (pc := 28) cx dX6_sortOf_28 bp_32 ?_
    have hi := inj1 hf
    exact r_iret (pc := 30) cx hi rfl dX6_sortOf_30
  · replace hf := ifn h2 hf
    refine r_iload_n (pc := 10) cx dX6_sortOf_10 0 rfl ?_
    refine r_aload_n (pc := 11) cx dX6_sortOf_11 1 rfl ?_
    refine r_get (pc := 12) cx cf_X6 0 5 rfl (by decide) rfl wd_257 dX6_sortOf_12 ?_
    refine r_alen (pc := 15) (v := (75 : Int32)) cx 3 rfl (by decide) dX6_sortOf_15 ?_
    refine r_icmp_ge (pc := 16) (tgt := 28) cx dX6_sortOf_16 (by decide) (fun h3 => ?_) (fun h3 => ?_)
    · replace hf := ifp h3 hf
      refine r_bipush (pc := 28) cx dX6_sortOf_28 bp_32 ?_
      have hi := inj1 hf
      exact r_iret (pc := 30) cx hi rfl dX6_sortOf_30
    · replace hf := ifn h3 hf
      refine r_aload_n (pc := 19) cx dX6_sortOf_19 1 rfl ?_
      refine r_get (pc := 20) cx cf_X6 0 5 rfl (by decide) rfl wd_257 dX6_sortOf_20 ?_
      refine r_iload_n (pc := 23) cx dX6_sortOf_23 0 rfl ?_
      replace hf := chk_of hf
      obtain ⟨h4, hf⟩ := hf
      refine r_iald (pc := 24) cx 3 rfl h4 dX6_sortOf_24 ?_
      refine r_goto (pc := 25) (tgt := 30) cx dX6_sortOf_25 (by decide) ?_
      have hi := inj1 hf
      exact r_iret (pc := 30) cx hi rfl dX6_sortOf_30
theorem yv_X6_sortOf : YV yX6_sortOf cX6_sortOf 4 (some .int) 2 := ⟨⟨by decide +kernel, by decide +kernel, by decide +kernel⟩, wd_656, wd_90, wd_655, wd_8⟩
abbrev rm_Rd_readName : Room := { frames := 1, cells := 0, slots := 0, locals := 22 }
set_option maxRecDepth 100000 in
set_option maxHeartbeats 4000000 in
theorem m_Rd_readName (l : Launch) (D : va_G) (K : Nat → ClassId) (q : Nat → Nat) (v : T_Rd) (g : Nat → Nat) (pr : T_Pg) (a2 : Int32) {o_v : T_Rd} (hf : f_Rd_readName v pr a2 = some o_v) : MV l yX6_readName cX6_readName 3 (none) rm_Rd_readName D K [.ref (q 0), .ref (g 0), .int a2] (cl_Rd K q v ++ (cl_Pg K g pr)) (cl_Rd K q o_v ++ (cl_Pg K g pr)) := by
  refine MV_of (loc0 := [(0, .ref (q 0)), (1, .ref (g 0)), (2, .int a2)]) (by decide +kernel) rfl (Nat.le_of_ble_eq_true rfl) ?_
  intro p e s m args below meth c A cx
  unfold f_Rd_readName at hf
  refine r_ws (ws' := [((q 0), ob 5 [.ref (q 1), .int (Rd_filled v), .int (Rd_fault v), .int (Rd_faultPlace v), .ref (q 2), .ref (q 3), .ref (q 4), .ref (q 5), .int (Rd_limit v), .int (Rd_position v), .int (Rd_token v), .int (Rd_value v), .int (Rd_place v), .int (Rd_toldRules v), .int (Rd_toldData v)]), ((q 1), aB K 700 (Rd_tape v)), ((q 2), aI K 25 (Rd_words v)), ((q 3), aI K 75 (Rd_sorts v)), ((q 4), aI K 3 (Rd_parts v)), ((q 5), aI K 64 (Rd_wantedPlaces v)), ((g 0), ob 3 [.ref (g 1), .ref (g 2), .ref (g 3), .ref (g 4), .ref (g 5), .ref (g 6), .ref (g 7), .ref (g 8), .int (Pg_nameCount pr), .int (Pg_size pr), .int (Pg_lines pr)]), ((g 1), aI K 64 (Pg_code pr)), ((g 2), aI K 64 (Pg_first pr)), ((g 3), aI K 64 (Pg_second pr)), ((g 4), aI K 64 (Pg_third pr)), ((g 5), aI K 8 (Pg_rules pr)), ((g 6), aI K 32 (Pg_data pr)), ((g 7), aI K 140 (Pg_names pr)), ((g 8), aI K 140 (Pg_namedPlaces pr))]) rfl ?_
  refine r_aload_n (pc := 0) cx dX6_readName_0 0 rfl ?_
  refine r_get (pc := 1) cx cf_X6 0 10 rfl (by decide) rfl wd_262 dX6_readName_1 ?_
  refine r_iconst (pc := 4) cx dX6_readName_4 ic_1 ?_
  refine r_icmp_ne (pc := 5) (tgt := 28) cx dX6_readName_5 (by decide) (fun h1 => ?_) (fun h1 => ?_)
  · replace hf := ifn h1 hf
    refine r_aload_n (pc := 28) cx dX6_readName_28 0 rfl ?_
    refine r_iconst (pc := 29) cx dX6_readName_29 ic_1 ?_
    refine r_aload_n (pc := 30) cx dX6_readName_30 0 rfl ?_
    refine r_get (pc := 31) cx cf_X6 0 12 rfl (by decide) rfl wd_264 dX6_readName_31 ?_
    replace hf := bd_of hf
    obtain ⟨v2, hc3, hf⟩ := hf
    refine r_Vv (pc := 34) (ws' := [((q 0), ob 5 [.ref (q 1), .int (Rd_filled v2), .int (Rd_fault v2), .int (Rd_faultPlace v2), .ref (q 2), .ref (q 3), .ref (q 4), .ref (q 5), .int (Rd_limit v2), .int (Rd_position v2), .int (Rd_token v2), .int (Rd_value v2), .int (Rd_place v2), .int (Rd_toldRules v2), .int (Rd_toldData v2)]), ((q 1), aB K 700 (Rd_tape v2)), ((q 2), aI K 25 (Rd_words v2)), ((q 3), aI K 75 (Rd_sorts v2)), ((q 4), aI K 3 (Rd_parts v2)), ((q 5), aI K 64 (Rd_wantedPlaces v2)), ((g 0), ob 3 [.ref (g 1), .ref (g 2), .ref (g 3), .ref (g 4), .ref (g 5), .ref (g 6), .ref (g 7), .ref (g 8), .int (Pg_nameCount pr), .int (Pg_size pr), .int (Pg_lines pr)]), ((g 1), aI K 64 (Pg_code pr)), ((g 2), aI K 64 (Pg_first pr)), ((g 3), aI K 64 (Pg_second pr)), ((g 4), aI K 64 (Pg_third pr)), ((g 5), aI K 8 (Pg_rules pr)), ((g 6), aI K 32 (Pg_data pr)), ((g 7), aI K 140 (Pg_names pr)), ((g 8), aI K 140 (Pg_namedPlaces pr))]) (wc := [((q 0), ob 5 [.ref (q 1), .int (Rd_filled v), .int (Rd_fault v), .int (Rd_faultPlace v), .ref (q 2), .ref (q 3), .ref (q 4), .ref (q 5), .int (Rd_limit v), .int (Rd_position v), .int (Rd_token v), .int (Rd_value v), .int (Rd_place v), .int (Rd_toldRules v), .int (Rd_toldData v)]), ((q 1), aB K 700 (Rd_tape v)), ((q 2), aI K 25 (Rd_words v)), ((q 3), aI K 75 (Rd_sorts v)), ((q 4), aI K 3 (Rd_parts v)), ((q 5), aI K 64 (Rd_wantedPlaces v))]) (nn := 6) cx [.int (1 : Int32), .int (Rd_place v)] [] (m_Rd_fail l D K q v (1 : Int32) (Rd_place v) hc3) rfl yv_X6_fail wd_649 ⟨rfl, rfl⟩ (by decide) (fr_s (j := 0) rfl rfl rfl (fr_s (j := 1) rfl rfl rfl (fr_s (j := 2) rfl rfl rfl (fr_s (j := 3) rfl rfl rfl (fr_s (j := 4) rfl rfl rfl (fr_s (j := 5) rfl rfl rfl (fr_k (fr_k (fr_k (fr_k (fr_k (fr_k (fr_k (fr_k (fr_k (fr_n)))))))))))))))) rfl (by decide) 0 rfl rfl rfl (Nat.le_of_ble_eq_true rfl) dX6_readName_34 ?_
    refine r_goto (pc := 37) (tgt := 109) cx dX6_readName_37 (by decide) ?_
    have hi := inj1 hf
    exact r_vret (pc := 109) cx (by rw [← hi]; rfl) dX6_readName_109
  · replace hf := ifp h1 hf
    refine r_aload_n (pc := 8) cx dX6_readName_8 0 rfl ?_
    refine r_get (pc := 9) cx cf_X6 0 11 rfl (by decide) rfl wd_263 dX6_readName_9 ?_
    refine r_iconst (pc := 12) cx dX6_readName_12 ic_m1 ?_
    refine r_icmp_eq (pc := 13) (tgt := 28) cx dX6_readName_13 (by decide) (fun h4 => ?_) (fun h4 => ?_)
    · replace hf := ifp h4 hf
      refine r_aload_n (pc := 28) cx dX6_readName_28 0 rfl ?_
      refine r_iconst (pc := 29) cx dX6_readName_29 ic_1 ?_
      refine r_aload_n (pc := 30) cx dX6_readName_30 0 rfl ?_
      refine r_get (pc := 31) cx cf_X6 0 12 rfl (by decide) rfl wd_264 dX6_readName_31 ?_
      replace hf := bd_of hf
      obtain ⟨v5, hc6, hf⟩ := hf
      refine r_Vv (pc := 34) (ws' := [((q 0), ob 5 [.ref (q 1), .int (Rd_filled v5), .int (Rd_fault v5), .int (Rd_faultPlace v5), .ref (q 2), .ref (q 3), .ref (q 4), .ref (q 5), .int (Rd_limit v5), .int (Rd_position v5), .int (Rd_token v5), .int (Rd_value v5), .int (Rd_place v5), .int (Rd_toldRules v5), .int (Rd_toldData v5)]), ((q 1), aB K 700 (Rd_tape v5)), ((q 2), aI K 25 (Rd_words v5)), ((q 3), aI K 75 (Rd_sorts v5)), ((q 4), aI K 3 (Rd_parts v5)), ((q 5), aI K 64 (Rd_wantedPlaces v5)), ((g 0), ob 3 [.ref (g 1), .ref (g 2), .ref (g 3), .ref (g 4), .ref (g 5), .ref (g 6), .ref (g 7), .ref (g 8), .int (Pg_nameCount pr), .int (Pg_size pr), .int (Pg_lines pr)]), ((g 1), aI K 64 (Pg_code pr)), ((g 2), aI K 64 (Pg_first pr)), ((g 3), aI K 64 (Pg_second pr)), ((g 4), aI K 64 (Pg_third pr)), ((g 5), aI K 8 (Pg_rules pr)), ((g 6), aI K 32 (Pg_data pr)), ((g 7), aI K 140 (Pg_names pr)), ((g 8), aI K 140 (Pg_namedPlaces pr))]) (wc := [((q 0), ob 5 [.ref (q 1), .int (Rd_filled v), .int (Rd_fault v), .int (Rd_faultPlace v), .ref (q 2), .ref (q 3), .ref (q 4), .ref (q 5), .int (Rd_limit v), .int (Rd_position v), .int (Rd_token v), .int (Rd_value v), .int (Rd_place v), .int (Rd_toldRules v), .int (Rd_toldData v)]), ((q 1), aB K 700 (Rd_tape v)), ((q 2), aI K 25 (Rd_words v)), ((q 3), aI K 75 (Rd_sorts v)), ((q 4), aI K 3 (Rd_parts v)), ((q 5), aI K 64 (Rd_wantedPlaces v))]) (nn := 6) cx [.int (1 : Int32), .int (Rd_place v)] [] (m_Rd_fail l D K q v (1 : Int32) (Rd_place v) hc6) rfl yv_X6_fail wd_649 ⟨rfl, rfl⟩ (by decide) (fr_s (j := 0) rfl rfl rfl (fr_s (j := 1) rfl rfl rfl (fr_s (j := 2) rfl rfl rfl (fr_s (j := 3) rfl rfl rfl (fr_s (j := 4) rfl rfl rfl (fr_s (j := 5) rfl rfl rfl (fr_k (fr_k (fr_k (fr_k (fr_k (fr_k (fr_k (fr_k (fr_k (fr_n)))))))))))))))) rfl (by decide) 0 rfl rfl rfl (Nat.le_of_ble_eq_true rfl) dX6_readName_34 ?_
      refine r_goto (pc := 37) (tgt := 109) cx dX6_readName_37 (by decide) ?_
      have hi := inj1 hf
      exact r_vret (pc := 109) cx (by rw [← hi]; rfl) dX6_readName_109
    · replace hf := ifn h4 hf
      refine r_aload_n (pc := 16) cx dX6_readName_16 0 rfl ?_
      refine r_aload_n (pc := 17) cx dX6_readName_17 0 rfl ?_
      refine r_get (pc := 18) cx cf_X6 0 11 rfl (by decide) rfl wd_263 dX6_readName_18 ?_
      replace hf := bd_of hf
      obtain ⟨r7, hc8, hf⟩ := hf
      refine r_Vi (pc := 21) (ws' := [((q 0), ob 5 [.ref (q 1), .int (Rd_filled v), .int (Rd_fault v), .int (Rd_faultPlace v), .ref (q 2), .ref (q 3), .ref (q 4), .ref (q 5), .int (Rd_limit v), .int (Rd_position v), .int (Rd_token v), .int (Rd_value v), .int (Rd_place v), .int (Rd_toldRules v), .int (Rd_toldData v)]), ((q 1), aB K 700 (Rd_tape v)), ((q 2), aI K 25 (Rd_words v)), ((q 3), aI K 75 (Rd_sorts v)), ((q 4), aI K 3 (Rd_parts v)), ((q 5), aI K 64 (Rd_wantedPlaces v)), ((g 0), ob 3 [.ref (g 1), .ref (g 2), .ref (g 3), .ref (g 4), .ref (g 5), .ref (g 6), .ref (g 7), .ref (g 8), .int (Pg_nameCount pr), .int (Pg_size pr), .int (Pg_lines pr)]), ((g 1), aI K 64 (Pg_code pr)), ((g 2), aI K 64 (Pg_first pr)), ((g 3), aI K 64 (Pg_second pr)), ((g 4), aI K 64 (Pg_third pr)), ((g 5), aI K 8 (Pg_rules pr)), ((g 6), aI K 32 (Pg_data pr)), ((g 7), aI K 140 (Pg_names pr)), ((g 8), aI K 140 (Pg_namedPlaces pr))]) (wc := [((q 0), ob 5 [.ref (q 1), .int (Rd_filled v), .int (Rd_fault v), .int (Rd_faultPlace v), .ref (q 2), .ref (q 3), .ref (q 4), .ref (q 5), .int (Rd_limit v), .int (Rd_position v), .int (Rd_token v), .int (Rd_value v), .int (Rd_place v), .int (Rd_toldRules v), .int (Rd_toldData v)]), ((q 1), aB K 700 (Rd_tape v)), ((q 2), aI K 25 (Rd_words v)), ((q 3), aI K 75 (Rd_sorts v)), ((q 4), aI K 3 (Rd_parts v)), ((q 5), aI K 64 (Rd_wantedPlaces v))]) (nn := 6) cx [.int (Rd_value v)] [] (m_Rd_wordNumber l D K q v (Rd_value v) hc8) rfl yv_X6_wordNumber wd_645 ⟨rfl, rfl⟩ (by decide) (fr_s (j := 0) rfl rfl rfl (fr_s (j := 1) rfl rfl rfl (fr_s (j := 2) rfl rfl rfl (fr_s (j := 3) rfl rfl rfl (fr_s (j := 4) rfl rfl rfl (fr_s (j := 5) rfl rfl rfl (fr_k (fr_k (fr_k (fr_k (fr_k (fr_k (fr_k (fr_k (fr_k (fr_n)))))))))))))))) rfl (by decide) 0 rfl rfl rfl (Nat.le_of_ble_eq_true rfl) dX6_readName_21 ?_
      refine r_iconst (pc := 24) cx dX6_readName_24 ic_m1 ?_
      refine r_icmp_eq (pc := 25) (tgt := 40) cx dX6_readName_25 (by decide) (fun h9 => ?_) (fun h9 => ?_)
      · replace hf := ifp h9 hf
        refine r_iload_n (pc := 40) cx dX6_readName_40 2 rfl ?_
        refine r_bipush (pc := 41) cx dX6_readName_41 bp_119 ?_
        refine r_icmp_ne (pc := 43) (tgt := 75) cx dX6_readName_43 (by decide) (fun h10 => ?_) (fun h10 => ?_)
        · replace hf := ifn h10 hf
          refine r_aload_n (pc := 75) cx dX6_readName_75 1 rfl ?_
          refine r_aload_n (pc := 76) cx dX6_readName_76 0 rfl ?_
          refine r_get (pc := 77) cx cf_X6 0 11 rfl (by decide) rfl wd_263 dX6_readName_77 ?_
          replace hf := bd_of hf
          obtain ⟨r11, hc12, hf⟩ := hf
          refine r_Vi (pc := 80) (ws' := [((q 0), ob 5 [.ref (q 1), .int (Rd_filled v), .int (Rd_fault v), .int (Rd_faultPlace v), .ref (q 2), .ref (q 3), .ref (q 4), .ref (q 5), .int (Rd_limit v), .int (Rd_position v), .int (Rd_token v), .int (Rd_value v), .int (Rd_place v), .int (Rd_toldRules v), .int (Rd_toldData v)]), ((q 1), aB K 700 (Rd_tape v)), ((q 2), aI K 25 (Rd_words v)), ((q 3), aI K 75 (Rd_sorts v)), ((q 4), aI K 3 (Rd_parts v)), ((q 5), aI K 64 (Rd_wantedPlaces v)), ((g 0), ob 3 [.ref (g 1), .ref (g 2), .ref (g 3), .ref (g 4), .ref (g 5), .ref (g 6), .ref (g 7), .ref (g 8), .int (Pg_nameCount pr), .int (Pg_size pr), .int (Pg_lines pr)]), ((g 1), aI K 64 (Pg_code pr)), ((g 2), aI K 64 (Pg_first pr)), ((g 3), aI K 64 (Pg_second pr)), ((g 4), aI K 64 (Pg_third pr)), ((g 5), aI K 8 (Pg_rules pr)), ((g 6), aI K 32 (Pg_data pr)), ((g 7), aI K 140 (Pg_names pr)), ((g 8), aI K 140 (Pg_namedPlaces pr))]) (wc := [((g 0), ob 3 [.ref (g 1), .ref (g 2), .ref (g 3), .ref (g 4), .ref (g 5), .ref (g 6), .ref (g 7), .ref (g 8), .int (Pg_nameCount pr), .int (Pg_size pr), .int (Pg_lines pr)]), ((g 1), aI K 64 (Pg_code pr)), ((g 2), aI K 64 (Pg_first pr)), ((g 3), aI K 64 (Pg_second pr)), ((g 4), aI K 64 (Pg_third pr)), ((g 5), aI K 8 (Pg_rules pr)), ((g 6), aI K 32 (Pg_data pr)), ((g 7), aI K 140 (Pg_names pr)), ((g 8), aI K 140 (Pg_namedPlaces pr))]) (nn := 9) cx [.int (Rd_value v)] [] (m_Pg_placeOf l D K g pr (Rd_value v) hc12) rfl yv_X4_placeOf wd_665 ⟨rfl, rfl⟩ (by decide) (fr_k (fr_k (fr_k (fr_k (fr_k (fr_k (fr_s (j := 0) rfl rfl rfl (fr_s (j := 1) rfl rfl rfl (fr_s (j := 2) rfl rfl rfl (fr_s (j := 3) rfl rfl rfl (fr_s (j := 4) rfl rfl rfl (fr_s (j := 5) rfl rfl rfl (fr_s (j := 6) rfl rfl rfl (fr_s (j := 7) rfl rfl rfl (fr_s (j := 8) rfl rfl rfl (fr_n)))))))))))))))) rfl (by decide) 6 rfl rfl rfl (Nat.le_of_ble_eq_true rfl) dX6_readName_80 ?_
          refine r_iconst (pc := 83) cx dX6_readName_83 ic_m1 ?_
          refine r_icmp_eq (pc := 84) (tgt := 99) cx dX6_readName_84 (by decide) (fun h13 => ?_) (fun h13 => ?_)
          · replace hf := ifp h13 hf
            refine r_aload_n (pc := 99) cx dX6_readName_99 0 rfl ?_
            refine r_get (pc := 100) cx cf_X6 0 6 rfl (by decide) rfl wd_258 dX6_readName_100 ?_
            refine r_iconst (pc := 103) cx dX6_readName_103 ic_0 ?_
            refine r_aload_n (pc := 104) cx dX6_readName_104 0 rfl ?_
            refine r_get (pc := 105) cx cf_X6 0 11 rfl (by decide) rfl wd_263 dX6_readName_105 ?_
            replace hf := nm_of hf
            obtain ⟨x14, ex14, hf⟩ := hf
            refine r_nm ex14 ?_
            replace hf := nm_of hf
            obtain ⟨f15, ef15, hf⟩ := hf
            refine r_iast (pc := 108) (ws' := [((q 0), ob 5 [.ref (q 1), .int (Rd_filled v), .int (Rd_fault v), .int (Rd_faultPlace v), .ref (q 2), .ref (q 3), .ref (q 4), .ref (q 5), .int (Rd_limit v), .int (Rd_position v), .int (Rd_token v), .int (Rd_value v), .int (Rd_place v), .int (Rd_toldRules v), .int (Rd_toldData v)]), ((q 1), aB K 700 (Rd_tape v)), ((q 2), aI K 25 (Rd_words v)), ((q 3), aI K 75 (Rd_sorts v)), ((q 4), aI K 3 f15), ((q 5), aI K 64 (Rd_wantedPlaces v)), ((g 0), ob 3 [.ref (g 1), .ref (g 2), .ref (g 3), .ref (g 4), .ref (g 5), .ref (g 6), .ref (g 7), .ref (g 8), .int (Pg_nameCount pr), .int (Pg_size pr), .int (Pg_lines pr)]), ((g 1), aI K 64 (Pg_code pr)), ((g 2), aI K 64 (Pg_first pr)), ((g 3), aI K 64 (Pg_second pr)), ((g 4), aI K 64 (Pg_third pr)), ((g 5), aI K 8 (Pg_rules pr)), ((g 6), aI K 32 (Pg_data pr)), ((g 7), aI K 140 (Pg_names pr)), ((g 8), aI K 140 (Pg_namedPlaces pr))]) cx 4 rfl (by decide) dX6_readName_108 ef15 rfl ?_
            have hi := inj1 hf
            exact r_vret (pc := 109) cx (by rw [← hi]; (try simp only [cl_Rd, Rd_tape_mk, Rd_filled_mk, Rd_fault_mk, Rd_faultPlace_mk, Rd_words_mk, Rd_sorts_mk, Rd_parts_mk, Rd_wantedPlaces_mk, Rd_limit_mk, Rd_position_mk, Rd_token_mk, Rd_value_mk, Rd_place_mk, Rd_toldRules_mk, Rd_toldData_mk, cl_Pg, Pg_code_mk, Pg_first_mk, Pg_second_mk, Pg_third_mk, Pg_rules_mk, Pg_data_mk, Pg_names_mk, Pg_namedPlaces_mk, Pg_nameCount_mk, Pg_size_mk, Pg_lines_mk, List.cons_append, List.nil_append, List.append_nil]) <;> rfl) dX6_readName_109
          · replace hf := ifn h13 hf
            refine r_aload_n (pc := 87) cx dX6_readName_87 0 rfl ?_
            refine r_iconst (pc := 88) cx dX6_readName_88 ic_3 ?_
            refine r_aload_n (pc := 89) cx dX6_readName_89 0 rfl ?_
            refine r_get (pc := 90) cx cf_X6 0 12 rfl (by decide) rfl wd_264 dX6_readName_90 ?_
            replace hf := bd_of hf
            obtain ⟨v16, hc17, hf⟩ := hf
            refine r_Vv (pc := 93) (ws' := [((q 0), ob 5 [.ref (q 1), .int (Rd_filled v16), .int (Rd_fault v16), .int (Rd_faultPlace v16), .ref (q 2), .ref (q 3), .ref (q 4), .ref (q 5), .int (Rd_limit v16), .int (Rd_position v16), .int (Rd_token v16), .int (Rd_value v16), .int (Rd_place v16), .int (Rd_toldRules v16), .int (Rd_toldData v16)]), ((q 1), aB K 700 (Rd_tape v16)), ((q 2), aI K 25 (Rd_words v16)), ((q 3), aI K 75 (Rd_sorts v16)), ((q 4), aI K 3 (Rd_parts v16)), ((q 5), aI K 64 (Rd_wantedPlaces v16)), ((g 0), ob 3 [.ref (g 1), .ref (g 2), .ref (g 3), .ref (g 4), .ref (g 5), .ref (g 6), .ref (g 7), .ref (g 8), .int (Pg_nameCount pr), .int (Pg_size pr), .int (Pg_lines pr)]), ((g 1), aI K 64 (Pg_code pr)), ((g 2), aI K 64 (Pg_first pr)), ((g 3), aI K 64 (Pg_second pr)), ((g 4), aI K 64 (Pg_third pr)), ((g 5), aI K 8 (Pg_rules pr)), ((g 6), aI K 32 (Pg_data pr)), ((g 7), aI K 140 (Pg_names pr)), ((g 8), aI K 140 (Pg_namedPlaces pr))]) (wc := [((q 0), ob 5 [.ref (q 1), .int (Rd_filled v), .int (Rd_fault v), .int (Rd_faultPlace v), .ref (q 2), .ref (q 3), .ref (q 4), .ref (q 5), .int (Rd_limit v), .int (Rd_position v), .int (Rd_token v), .int (Rd_value v), .int (Rd_place v), .int (Rd_toldRules v), .int (Rd_toldData v)]), ((q 1), aB K 700 (Rd_tape v)), ((q 2), aI K 25 (Rd_words v)), ((q 3), aI K 75 (Rd_sorts v)), ((q 4), aI K 3 (Rd_parts v)), ((q 5), aI K 64 (Rd_wantedPlaces v))]) (nn := 6) cx [.int (3 : Int32), .int (Rd_place v)] [] (m_Rd_fail l D K q v (3 : Int32) (Rd_place v) hc17) rfl yv_X6_fail wd_649 ⟨rfl, rfl⟩ (by decide) (fr_s (j := 0) rfl rfl rfl (fr_s (j := 1) rfl rfl rfl (fr_s (j := 2) rfl rfl rfl (fr_s (j := 3) rfl rfl rfl (fr_s (j := 4) rfl rfl rfl (fr_s (j := 5) rfl rfl rfl (fr_k (fr_k (fr_k (fr_k (fr_k (fr_k (fr_k (fr_k (fr_k (fr_n)))))))))))))))) rfl (by decide) 0 rfl rfl rfl (Nat.le_of_ble_eq_true rfl) dX6_readName_93 ?_
            refine r_goto (pc := 96) (tgt := 109) cx dX6_readName_96 (by decide) ?_
            have hi := inj1 hf
            exact r_vret (pc := 109) cx (by rw [← hi]; rfl) dX6_readName_109
        · replace hf := ifp h10 hf
          refine r_aload_n (pc := 46) cx dX6_readName_46 0 rfl ?_
          refine r_get (pc := 47) cx cf_X6 0 7 rfl (by decide) rfl wd_259 dX6_readName_47 ?_
          refine r_aload_n (pc := 50) cx dX6_readName_50 1 rfl ?_
          refine r_get (pc := 51) cx cf_X4 6 9 rfl (by decide) rfl wd_156 dX6_readName_51 ?_
          refine r_bipush (pc := 54) cx dX6_readName_54 bp_63 ?_
          refine r_iand (pc := 56) cx dX6_readName_56 ?_
          refine r_aload_n (pc := 57) cx dX6_readName_57 0 rfl ?_
          refine r_get (pc := 58) cx cf_X6 0 12 rfl (by decide) rfl wd_264 dX6_readName_58 ?_
          replace hf := nm_of hf
          obtain ⟨x18, ex18, hf⟩ := hf
          refine r_nm ex18 ?_
          replace hf := nm_of hf
          obtain ⟨f19, ef19, hf⟩ := hf
          refine r_iast (pc := 61) (ws' := [((q 0), ob 5 [.ref (q 1), .int (Rd_filled v), .int (Rd_fault v), .int (Rd_faultPlace v), .ref (q 2), .ref (q 3), .ref (q 4), .ref (q 5), .int (Rd_limit v), .int (Rd_position v), .int (Rd_token v), .int (Rd_value v), .int (Rd_place v), .int (Rd_toldRules v), .int (Rd_toldData v)]), ((q 1), aB K 700 (Rd_tape v)), ((q 2), aI K 25 (Rd_words v)), ((q 3), aI K 75 (Rd_sorts v)), ((q 4), aI K 3 (Rd_parts v)), ((q 5), aI K 64 f19), ((g 0), ob 3 [.ref (g 1), .ref (g 2), .ref (g 3), .ref (g 4), .ref (g 5), .ref (g 6), .ref (g 7), .ref (g 8), .int (Pg_nameCount pr), .int (Pg_size pr), .int (Pg_lines pr)]), ((g 1), aI K 64 (Pg_code pr)), ((g 2), aI K 64 (Pg_first pr)), ((g 3), aI K 64 (Pg_second pr)), ((g 4), aI K 64 (Pg_third pr)), ((g 5), aI K 8 (Pg_rules pr)), ((g 6), aI K 32 (Pg_data pr)), ((g 7), aI K 140 (Pg_names pr)), ((g 8), aI K 140 (Pg_namedPlaces pr))]) cx 5 rfl (ix_and63 _) dX6_readName_61 ef19 rfl ?_
          refine r_aload_n (pc := 62) cx dX6_readName_62 0 rfl ?_
          refine r_get (pc := 63) cx cf_X6 0 6 rfl (by decide) rfl wd_258 dX6_readName_63 ?_
          refine r_iconst (pc := 66) cx dX6_readName_66 ic_2 ?_
          refine r_aload_n (pc := 67) cx dX6_readName_67 0 rfl ?_
          refine r_get (pc := 68) cx cf_X6 0 11 rfl (by decide) rfl wd_263 dX6_readName_68 ?_
          replace hf := nm_of hf
          obtain ⟨x20, ex20, hf⟩ := hf
          refine r_nm ex20 ?_
          replace hf := nm_of hf
          obtain ⟨f21, ef21, hf⟩ := hf
          refine r_iast (pc := 71) (ws' := [((q 0), ob 5 [.ref (q 1), .int (Rd_filled v), .int (Rd_fault v), .int (Rd_faultPlace v), .ref (q 2), .ref (q 3), .ref (q 4), .ref (q 5), .int (Rd_limit v), .int (Rd_position v), .int (Rd_token v), .int (Rd_value v), .int (Rd_place v), .int (Rd_toldRules v), .int (Rd_toldData v)]), ((q 1), aB K 700 (Rd_tape v)), ((q 2), aI K 25 (Rd_words v)), ((q 3), aI K 75 (Rd_sorts v)), ((q 4), aI K 3 f21), ((q 5), aI K 64 f19), ((g 0), ob 3 [.ref (g 1), .ref (g 2), .ref (g 3), .ref (g 4), .ref (g 5), .ref (g 6), .ref (g 7), .ref (g 8), .int (Pg_nameCount pr), .int (Pg_size pr), .int (Pg_lines pr)]), ((g 1), aI K 64 (Pg_code pr)), ((g 2), aI K 64 (Pg_first pr)), ((g 3), aI K 64 (Pg_second pr)), ((g 4), aI K 64 (Pg_third pr)), ((g 5), aI K 8 (Pg_rules pr)), ((g 6), aI K 32 (Pg_data pr)), ((g 7), aI K 140 (Pg_names pr)), ((g 8), aI K 140 (Pg_namedPlaces pr))]) cx 4 rfl (by decide) dX6_readName_71 ef21 rfl ?_
          refine r_goto (pc := 72) (tgt := 109) cx dX6_readName_72 (by decide) ?_
          have hi := inj1 hf
          exact r_vret (pc := 109) cx (by rw [← hi]; (try simp only [cl_Rd, Rd_tape_mk, Rd_filled_mk, Rd_fault_mk, Rd_faultPlace_mk, Rd_words_mk, Rd_sorts_mk, Rd_parts_mk, Rd_wantedPlaces_mk, Rd_limit_mk, Rd_position_mk, Rd_token_mk, Rd_value_mk, Rd_place_mk, Rd_toldRules_mk, Rd_toldData_mk, cl_Pg, Pg_code_mk, Pg_first_mk, Pg_second_mk, Pg_third_mk, Pg_rules_mk, Pg_data_mk, Pg_names_mk, Pg_namedPlaces_mk, Pg_nameCount_mk, Pg_size_mk, Pg_lines_mk, List.cons_append, List.nil_append, List.append_nil]) <;> rfl) dX6_readName_109
      · replace hf := ifn h9 hf
        refine r_aload_n (pc := 28) cx dX6_readName_28 0 rfl ?_
        refine r_iconst (pc := 29) cx dX6_readName_29 ic_1 ?_
        refine r_aload_n (pc := 30) cx dX6_readName_30 0 rfl ?_
        refine r_get (pc := 31) cx cf_X6 0 12 rfl (by decide) rfl wd_264 dX6_readName_31 ?_
        replace hf := bd_of hf
        obtain ⟨v22, hc23, hf⟩ := hf
        refine r_Vv (pc := 34) (ws' := [((q 0), ob 5 [.ref (q 1), .int (Rd_filled v22), .int (Rd_fault v22), .int (Rd_faultPlace v22), .ref (q 2), .ref (q 3), .ref (q 4), .ref (q 5), .int (Rd_limit v22), .int (Rd_position v22), .int (Rd_token v22), .int (Rd_value v22), .int (Rd_place v22), .int (Rd_toldRules v22), .int (Rd_toldData v22)]), ((q 1), aB K 700 (Rd_tape v22)), ((q 2), aI K 25 (Rd_words v22)), ((q 3), aI K 75 (Rd_sorts v22)), ((q 4), aI K 3 (Rd_parts v22)), ((q 5), aI K 64 (Rd_wantedPlaces v22)), ((g 0), ob 3 [.ref (g 1), .ref (g 2), .ref (g 3), .ref (g 4), .ref (g 5), .ref (g 6), .ref (g 7), .ref (g 8), .int (Pg_nameCount pr), .int (Pg_size pr), .int (Pg_lines pr)]), ((g 1), aI K 64 (Pg_code pr)), ((g 2), aI K 64 (Pg_first pr)), ((g 3), aI K 64 (Pg_second pr)), ((g 4), aI K 64 (Pg_third pr)), ((g 5), aI K 8 (Pg_rules pr)), ((g 6), aI K 32 (Pg_data pr)), ((g 7), aI K 140 (Pg_names pr)), ((g 8), aI K 140 (Pg_namedPlaces pr))]) (wc := [((q 0), ob 5 [.ref (q 1), .int (Rd_filled v), .int (Rd_fault v), .int (Rd_faultPlace v), .ref (q 2), .ref (q 3), .ref (q 4), .ref (q 5), .int (Rd_limit v), .int (Rd_position v), .int (Rd_token v), .int (Rd_value v), .int (Rd_place v), .int (Rd_toldRules v), .int (Rd_toldData v)]), ((q 1), aB K 700 (Rd_tape v)), ((q 2), aI K 25 (Rd_words v)), ((q 3), aI K 75 (Rd_sorts v)), ((q 4), aI K 3 (Rd_parts v)), ((q 5), aI K 64 (Rd_wantedPlaces v))]) (nn := 6) cx [.int (1 : Int32), .int (Rd_place v)] [] (m_Rd_fail l D K q v (1 : Int32) (Rd_place v) hc23) rfl yv_X6_fail wd_649 ⟨rfl, rfl⟩ (by decide) (fr_s (j := 0) rfl rfl rfl (fr_s (j := 1) rfl rfl rfl (fr_s (j := 2) rfl rfl rfl (fr_s (j := 3) rfl rfl rfl (fr_s (j := 4) rfl rfl rfl (fr_s (j := 5) rfl rfl rfl (fr_k (fr_k (fr_k (fr_k (fr_k (fr_k (fr_k (fr_k (fr_k (fr_n)))))))))))))))) rfl (by decide) 0 rfl rfl rfl (Nat.le_of_ble_eq_true rfl) dX6_readName_34 ?_
        refine r_goto (pc := 37) (tgt := 109) cx dX6_readName_37 (by decide) ?_
        have hi := inj1 hf
        exact r_vret (pc := 109) cx (by rw [← hi]; rfl) dX6_readName_109
theorem yv_X6_readName : YV yX6_readName cX6_readName 3 (none) 2 := ⟨⟨by decide +kernel, by decide +kernel, by decide +kernel⟩, wd_664, wd_90, wd_663, wd_10⟩
abbrev rm_Rd_least : Room := { frames := 0, cells := 0, slots := 0, locals := 0 }
set_option maxRecDepth 100000 in
set_option maxHeartbeats 4000000 in
theorem m_Rd_least (l : Launch) (D : va_G) (K : Nat → ClassId) (q : Nat → Nat) (v : T_Rd) (a1 : Int32) {r_ : Int32} (hf : f_Rd_least v a1 = some r_) : MI l yX6_least cX6_least 2 (some .int) rm_Rd_least D K [.ref (q 0), .int a1] (cl_Rd K q v) r_ (cl_Rd K q v) := by
  refine MI_of (loc0 := [(0, .ref (q 0)), (1, .int a1)]) (by decide +kernel) rfl (Nat.le_of_ble_eq_true rfl) ?_
  intro p e s m args below meth c A cx
  unfold f_Rd_least at hf
  refine r_ws (ws' := [((q 0), ob 5 [.ref (q 1), .int (Rd_filled v), .int (Rd_fault v), .int (Rd_faultPlace v), .ref (q 2), .ref (q 3), .ref (q 4), .ref (q 5), .int (Rd_limit v), .int (Rd_position v), .int (Rd_token v), .int (Rd_value v), .int (Rd_place v), .int (Rd_toldRules v), .int (Rd_toldData v)]), ((q 1), aB K 700 (Rd_tape v)), ((q 2), aI K 25 (Rd_words v)), ((q 3), aI K 75 (Rd_sorts v)), ((q 4), aI K 3 (Rd_parts v)), ((q 5), aI K 64 (Rd_wantedPlaces v))]) rfl ?_
  refine r_iload_n (pc := 0) cx dX6_least_0 1 rfl ?_
  refine r_bipush (pc := 1) cx dX6_least_1 bp_104 ?_
  refine r_icmp_ne (pc := 3) (tgt := 15) cx dX6_least_3 (by decide) (fun h1 => ?_) (fun h1 => ?_)
  · replace hf := ifn h1 hf
    refine r_iload_n (pc := 15) cx dX6_least_15 1 rfl ?_
    refine r_bipush (pc := 16) cx dX6_least_16 bp_115 ?_
    refine r_icmp_eq (pc := 18) (tgt := 33) cx dX6_least_18 (by decide) (fun h2 => ?_) (fun h2 => ?_)
    · replace hf := ifp h2 hf
      refine r_iconst (pc := 33) cx dX6_least_33 ic_1 ?_
      refine r_goto (pc := 34) (tgt := 38) cx dX6_least_34 (by decide) ?_
      have hi := inj1 hf
      exact r_iret (pc := 38) cx hi rfl dX6_least_38
    · replace hf := ifn h2 hf
      refine r_iload_n (pc := 21) cx dX6_least_21 1 rfl ?_
      refine r_bipush (pc := 22) cx dX6_least_22 bp_113 ?_
      refine r_icmp_eq (pc := 24) (tgt := 33) cx dX6_least_24 (by decide) (fun h3 => ?_) (fun h3 => ?_)
      · replace hf := ifp h3 hf
        refine r_iconst (pc := 33) cx dX6_least_33 ic_1 ?_
        refine r_goto (pc := 34) (tgt := 38) cx dX6_least_34 (by decide) ?_
        have hi := inj1 hf
        exact r_iret (pc := 38) cx hi rfl dX6_least_38
      · replace hf := ifn h3 hf
        refine r_iload_n (pc := 27) cx dX6_least_27 1 rfl ?_
        refine r_bipush (pc := 28) cx dX6_least_28 bp_116 ?_
        refine r_icmp_ne (pc := 30) (tgt := 37) cx dX6_least_30 (by decide) (fun h4 => ?_) (fun h4 => ?_)
        · replace hf := ifn h4 hf
          refine r_iconst (pc := 37) cx dX6_least_37 ic_0 ?_
          have hi := inj1 hf
          exact r_iret (pc := 38) cx hi rfl dX6_least_38
        · replace hf := ifp h4 hf
          refine r_iconst (pc := 33) cx dX6_least_33 ic_1 ?_
          refine r_goto (pc := 34) (tgt := 38) cx dX6_least_34 (by decide) ?_
          have hi := inj1 hf
          exact r_iret (pc := 38) cx hi rfl dX6_least_38
  · replace hf := ifp h1 hf
    refine r_aload_n (pc := 6) cx dX6_least_6 0 rfl ?_
    refine r_get (pc := 7) cx cf_X6 0 6 rfl (by decide) rfl wd_258 dX6_least_7 ?_
    refine r_iconst (pc := 10) cx dX6_least_10 ic_0 ?_
    refine r_iald (pc := 11) cx 4 rfl (by decide) dX6_least_11 ?_
    refine r_iconst (pc := 12) cx dX6_least_12 ic_1 ?_
    refine r_iadd (pc := 13) cx dX6_least_13 ?_
    have hi := inj1 hf
    exact r_iret (pc := 14) cx hi rfl dX6_least_14
theorem yv_X6_least : YV yX6_least cX6_least 2 (some .int) 1 := ⟨⟨by decide +kernel, by decide +kernel, by decide +kernel⟩, wd_672, wd_90, wd_671, wd_11⟩
abbrev rm_Rd_greatest : Room := { frames := 0, cells := 0, slots := 0, locals := 0 }
set_option maxRecDepth 100000 in
set_option maxHeartbeats 4000000 in
theorem m_Rd_greatest (l : Launch) (D : va_G) (K : Nat → ClassId) (a0 : Int32) {r_ : Int32} (hf : f_Rd_greatest a0 = some r_) : MI l yX6_greatest cX6_greatest 1 (some .int) rm_Rd_greatest D K [.int a0] ([]) r_ ([]) := by
  refine MI_of (loc0 := [(0, .int a0)]) (by decide +kernel) rfl (Nat.le_of_ble_eq_true rfl) ?_
  intro p e s m args below meth c A cx
  unfold f_Rd_greatest at hf
  refine r_ws (ws' := []) rfl ?_
  refine r_iload_n (pc := 0) cx dX6_greatest_0 0 rfl ?_
  by_cases h1 : a0 = (100 : Int32)
  · replace hf := ifp h1 hf
    refine r_tin (pc := 1) (tgt := 93) cx (100 : Int32) h1 dX6_greatest_1 (by decide) (by decide) rfl (by decide) ?_
    refine r_bipush (pc := 93) cx dX6_greatest_93 bp_31 ?_
    have hi := inj1 hf
    exact r_iret (pc := 95) cx hi rfl dX6_greatest_95
  · replace hf := ifn h1 hf
    by_cases h3 : a0 = (101 : Int32)
    · replace hf := ifp h3 hf
      refine r_tin (pc := 1) (tgt := 101) cx (101 : Int32) h3 dX6_greatest_1 (by decide) (by decide) rfl (by decide) ?_
      refine r_ldc (pc := 101) cx dX6_greatest_101 wd_676 ?_
      have hi := inj1 hf
      exact r_iret (pc := 103) cx hi rfl dX6_greatest_103
    · replace hf := ifn h3 hf
      by_cases h4 : a0 = (102 : Int32)
      · replace hf := ifp h4 hf
        refine r_tin (pc := 1) (tgt := 99) cx (102 : Int32) h4 dX6_greatest_1 (by decide) (by decide) rfl (by decide) ?_
        refine r_iconst (pc := 99) cx dX6_greatest_99 ic_3 ?_
        have hi := inj1 hf
        exact r_iret (pc := 100) cx hi rfl dX6_greatest_100
      · replace hf := ifn h4 hf
        by_cases h6 : a0 = (103 : Int32)
        · replace hf := ifp h6 hf
          refine r_tin (pc := 1) (tgt := 101) cx (103 : Int32) h6 dX6_greatest_1 (by decide) (by decide) rfl (by decide) ?_
          refine r_ldc (pc := 101) cx dX6_greatest_101 wd_676 ?_
          have hi := inj1 hf
          exact r_iret (pc := 103) cx hi rfl dX6_greatest_103
        · replace hf := ifn h6 hf
          by_cases h7 : a0 = (104 : Int32)
          · replace hf := ifp h7 hf
            refine r_tin (pc := 1) (tgt := 90) cx (104 : Int32) h7 dX6_greatest_1 (by decide) (by decide) rfl (by decide) ?_
            refine r_bipush (pc := 90) cx dX6_greatest_90 bp_9 ?_
            have hi := inj1 hf
            exact r_iret (pc := 92) cx hi rfl dX6_greatest_92
          · replace hf := ifn h7 hf
            by_cases h9 : a0 = (105 : Int32)
            · replace hf := ifp h9 hf
              refine r_tin (pc := 1) (tgt := 101) cx (105 : Int32) h9 dX6_greatest_1 (by decide) (by decide) rfl (by decide) ?_
              refine r_ldc (pc := 101) cx dX6_greatest_101 wd_676 ?_
              have hi := inj1 hf
              exact r_iret (pc := 103) cx hi rfl dX6_greatest_103
            · replace hf := ifn h9 hf
              by_cases h11 : a0 = (106 : Int32)
              · replace hf := ifp h11 hf
                refine r_tin (pc := 1) (tgt := 101) cx (106 : Int32) h11 dX6_greatest_1 (by decide) (by decide) rfl (by decide) ?_
                refine r_ldc (pc := 101) cx dX6_greatest_101 wd_676 ?_
                have hi := inj1 hf
                exact r_iret (pc := 103) cx hi rfl dX6_greatest_103
              · replace hf := ifn h11 hf
                by_cases h13 : a0 = (107 : Int32)
                · replace hf := ifp h13 hf
                  refine r_tin (pc := 1) (tgt := 101) cx (107 : Int32) h13 dX6_greatest_1 (by decide) (by decide) rfl (by decide) ?_
                  refine r_ldc (pc := 101) cx dX6_greatest_101 wd_676 ?_
                  have hi := inj1 hf
                  exact r_iret (pc := 103) cx hi rfl dX6_greatest_103
                · replace hf := ifn h13 hf
                  by_cases h14 : a0 = (108 : Int32)
                  · replace hf := ifp h14 hf
                    refine r_tin (pc := 1) (tgt := 87) cx (108 : Int32) h14 dX6_greatest_1 (by decide) (by decide) rfl (by decide) ?_
                    refine r_bipush (pc := 87) cx dX6_greatest_87 bp_8 ?_
                    have hi := inj1 hf
                    exact r_iret (pc := 89) cx hi rfl dX6_greatest_89
                  · replace hf := ifn h14 hf
                    by_cases h15 : a0 = (109 : Int32)
                    · replace hf := ifp h15 hf
                      refine r_tin (pc := 1) (tgt := 93) cx (109 : Int32) h15 dX6_greatest_1 (by decide) (by decide) rfl (by decide) ?_
                      refine r_bipush (pc := 93) cx dX6_greatest_93 bp_31 ?_
                      have hi := inj1 hf
                      exact r_iret (pc := 95) cx hi rfl dX6_greatest_95
                    · replace hf := ifn h15 hf
                      by_cases h17 : a0 = (110 : Int32)
                      · replace hf := ifp h17 hf
                        refine r_tin (pc := 1) (tgt := 101) cx (110 : Int32) h17 dX6_greatest_1 (by decide) (by decide) rfl (by decide) ?_
                        refine r_ldc (pc := 101) cx dX6_greatest_101 wd_676 ?_
                        have hi := inj1 hf
                        exact r_iret (pc := 103) cx hi rfl dX6_greatest_103
                      · replace hf := ifn h17 hf
                        by_cases h19 : a0 = (111 : Int32)
                        · replace hf := ifp h19 hf
                          refine r_tin (pc := 1) (tgt := 101) cx (111 : Int32) h19 dX6_greatest_1 (by decide) (by decide) rfl (by decide) ?_
                          refine r_ldc (pc := 101) cx dX6_greatest_101 wd_676 ?_
                          have hi := inj1 hf
                          exact r_iret (pc := 103) cx hi rfl dX6_greatest_103
                        · replace hf := ifn h19 hf
                          by_cases h21 : a0 = (112 : Int32)
                          · replace hf := ifp h21 hf
                            refine r_tin (pc := 1) (tgt := 101) cx (112 : Int32) h21 dX6_greatest_1 (by decide) (by decide) rfl (by decide) ?_
                            refine r_ldc (pc := 101) cx dX6_greatest_101 wd_676 ?_
                            have hi := inj1 hf
                            exact r_iret (pc := 103) cx hi rfl dX6_greatest_103
                          · replace hf := ifn h21 hf
                            by_cases h22 : a0 = (113 : Int32)
                            · replace hf := ifp h22 hf
                              refine r_tin (pc := 1) (tgt := 87) cx (113 : Int32) h22 dX6_greatest_1 (by decide) (by decide) rfl (by decide) ?_
                              refine r_bipush (pc := 87) cx dX6_greatest_87 bp_8 ?_
                              have hi := inj1 hf
                              exact r_iret (pc := 89) cx hi rfl dX6_greatest_89
                            · replace hf := ifn h22 hf
                              by_cases h23 : a0 = (114 : Int32)
                              · replace hf := ifp h23 hf
                                refine r_tin (pc := 1) (tgt := 96) cx (114 : Int32) h23 dX6_greatest_1 (by decide) (by decide) rfl (by decide) ?_
                                refine r_bipush (pc := 96) cx dX6_greatest_96 bp_7 ?_
                                have hi := inj1 hf
                                exact r_iret (pc := 98) cx hi rfl dX6_greatest_98
                              · replace hf := ifn h23 hf
                                by_cases h24 : a0 = (115 : Int32)
                                · replace hf := ifp h24 hf
                                  refine r_tin (pc := 1) (tgt := 84) cx (115 : Int32) h24 dX6_greatest_1 (by decide) (by decide) rfl (by decide) ?_
                                  refine r_bipush (pc := 84) cx dX6_greatest_84 bp_40 ?_
                                  have hi := inj1 hf
                                  exact r_iret (pc := 86) cx hi rfl dX6_greatest_86
                                · replace hf := ifn h24 hf
                                  by_cases h25 : a0 = (116 : Int32)
                                  · replace hf := ifp h25 hf
                                    refine r_tin (pc := 1) (tgt := 90) cx (116 : Int32) h25 dX6_greatest_1 (by decide) (by decide) rfl (by decide) ?_
                                    refine r_bipush (pc := 90) cx dX6_greatest_90 bp_9 ?_
                                    have hi := inj1 hf
                                    exact r_iret (pc := 92) cx hi rfl dX6_greatest_92
                                  · replace hf := ifn h25 hf
                                    refine r_tout (pc := 1) (tgt := 101) cx dX6_greatest_1 (by
                                      have nh1 := toInt_ne h1
                                      have mh1 : (100 : Int32).toInt = 100 := by decide
                                      rw [mh1] at nh1
                                      have nh3 := toInt_ne h3
                                      have mh3 : (101 : Int32).toInt = 101 := by decide
                                      rw [mh3] at nh3
                                      have nh4 := toInt_ne h4
                                      have mh4 : (102 : Int32).toInt = 102 := by decide
                                      rw [mh4] at nh4
                                      have nh6 := toInt_ne h6
                                      have mh6 : (103 : Int32).toInt = 103 := by decide
                                      rw [mh6] at nh6
                                      have nh7 := toInt_ne h7
                                      have mh7 : (104 : Int32).toInt = 104 := by decide
                                      rw [mh7] at nh7
                                      have nh9 := toInt_ne h9
                                      have mh9 : (105 : Int32).toInt = 105 := by decide
                                      rw [mh9] at nh9
                                      have nh11 := toInt_ne h11
                                      have mh11 : (106 : Int32).toInt = 106 := by decide
                                      rw [mh11] at nh11
                                      have nh13 := toInt_ne h13
                                      have mh13 : (107 : Int32).toInt = 107 := by decide
                                      rw [mh13] at nh13
                                      have nh14 := toInt_ne h14
                                      have mh14 : (108 : Int32).toInt = 108 := by decide
                                      rw [mh14] at nh14
                                      have nh15 := toInt_ne h15
                                      have mh15 : (109 : Int32).toInt = 109 := by decide
                                      rw [mh15] at nh15
                                      have nh17 := toInt_ne h17
                                      have mh17 : (110 : Int32).toInt = 110 := by decide
                                      rw [mh17] at nh17
                                      have nh19 := toInt_ne h19
                                      have mh19 : (111 : Int32).toInt = 111 := by decide
                                      rw [mh19] at nh19
                                      have nh21 := toInt_ne h21
                                      have mh21 : (112 : Int32).toInt = 112 := by decide
                                      rw [mh21] at nh21
                                      have nh22 := toInt_ne h22
                                      have mh22 : (113 : Int32).toInt = 113 := by decide
                                      rw [mh22] at nh22
                                      have nh23 := toInt_ne h23
                                      have mh23 : (114 : Int32).toInt = 114 := by decide
                                      rw [mh23] at nh23
                                      have nh24 := toInt_ne h24
                                      have mh24 : (115 : Int32).toInt = 115 := by decide
                                      rw [mh24] at nh24
                                      have nh25 := toInt_ne h25
                                      have mh25 : (116 : Int32).toInt = 116 := by decide
                                      rw [mh25] at nh25
                                      omega) (by decide) ?_
                                    refine r_ldc (pc := 101) cx dX6_greatest_101 wd_676 ?_
                                    have hi := inj1 hf
                                    exact r_iret (pc := 103) cx hi rfl dX6_greatest_103
theorem ys_X6_greatest : YS yX6_greatest cX6_greatest 1 (some .int) 1 := ⟨⟨by decide +kernel, by decide +kernel, by decide +kernel⟩, wd_675, wd_90, wd_674⟩
abbrev rm_Rd_readPart : Room := { frames := 2, cells := 0, slots := 0, locals := 44 }
set_option maxRecDepth 100000 in
set_option maxHeartbeats 4000000 in
theorem m_Rd_readPart (l : Launch) (D : va_G) (K : Nat → ClassId) (q : Nat → Nat) (v : T_Rd) (g : Nat → Nat) (pr : T_Pg) (a2 : Int32) (a3 : Int32) {o_v : T_Rd} (hf : f_Rd_readPart v pr a2 a3 = some o_v) : MV l yX6_readPart cX6_readPart 4 (none) rm_Rd_readPart D K [.ref (q 0), .ref (g 0), .int a2, .int a3] (cl_Rd K q v ++ (cl_Pg K g pr)) (cl_Rd K q o_v ++ (cl_Pg K g pr)) := by
  refine MV_of (loc0 := [(0, .ref (q 0)), (1, .ref (g 0)), (2, .int a2), (3, .int a3)]) (by decide +kernel) rfl (Nat.le_of_ble_eq_true rfl) ?_
  intro p e s m args below meth c A cx
  unfold f_Rd_readPart at hf
  refine r_ws (ws' := [((q 0), ob 5 [.ref (q 1), .int (Rd_filled v), .int (Rd_fault v), .int (Rd_faultPlace v), .ref (q 2), .ref (q 3), .ref (q 4), .ref (q 5), .int (Rd_limit v), .int (Rd_position v), .int (Rd_token v), .int (Rd_value v), .int (Rd_place v), .int (Rd_toldRules v), .int (Rd_toldData v)]), ((q 1), aB K 700 (Rd_tape v)), ((q 2), aI K 25 (Rd_words v)), ((q 3), aI K 75 (Rd_sorts v)), ((q 4), aI K 3 (Rd_parts v)), ((q 5), aI K 64 (Rd_wantedPlaces v)), ((g 0), ob 3 [.ref (g 1), .ref (g 2), .ref (g 3), .ref (g 4), .ref (g 5), .ref (g 6), .ref (g 7), .ref (g 8), .int (Pg_nameCount pr), .int (Pg_size pr), .int (Pg_lines pr)]), ((g 1), aI K 64 (Pg_code pr)), ((g 2), aI K 64 (Pg_first pr)), ((g 3), aI K 64 (Pg_second pr)), ((g 4), aI K 64 (Pg_third pr)), ((g 5), aI K 8 (Pg_rules pr)), ((g 6), aI K 32 (Pg_data pr)), ((g 7), aI K 140 (Pg_names pr)), ((g 8), aI K 140 (Pg_namedPlaces pr))]) rfl ?_
  refine r_iload_n (pc := 0) cx dX6_readPart_0 2 rfl ?_
  refine r_bipush (pc := 1) cx dX6_readPart_1 bp_110 ?_
  refine r_icmp_eq (pc := 3) (tgt := 12) cx dX6_readPart_3 (by decide) (fun h1 => ?_) (fun h1 => ?_)
  · replace hf := ifp h1 hf
    refine r_aload_n (pc := 12) cx dX6_readPart_12 0 rfl ?_
    refine r_aload_n (pc := 13) cx dX6_readPart_13 1 rfl ?_
    refine r_iload_n (pc := 14) cx dX6_readPart_14 2 rfl ?_
    replace hf := bd_of hf
    obtain ⟨v2, hc3, hf⟩ := hf
    refine r_Vv (pc := 15) (ws' := [((q 0), ob 5 [.ref (q 1), .int (Rd_filled v2), .int (Rd_fault v2), .int (Rd_faultPlace v2), .ref (q 2), .ref (q 3), .ref (q 4), .ref (q 5), .int (Rd_limit v2), .int (Rd_position v2), .int (Rd_token v2), .int (Rd_value v2), .int (Rd_place v2), .int (Rd_toldRules v2), .int (Rd_toldData v2)]), ((q 1), aB K 700 (Rd_tape v2)), ((q 2), aI K 25 (Rd_words v2)), ((q 3), aI K 75 (Rd_sorts v2)), ((q 4), aI K 3 (Rd_parts v2)), ((q 5), aI K 64 (Rd_wantedPlaces v2)), ((g 0), ob 3 [.ref (g 1), .ref (g 2), .ref (g 3), .ref (g 4), .ref (g 5), .ref (g 6), .ref (g 7), .ref (g 8), .int (Pg_nameCount pr), .int (Pg_size pr), .int (Pg_lines pr)]), ((g 1), aI K 64 (Pg_code pr)), ((g 2), aI K 64 (Pg_first pr)), ((g 3), aI K 64 (Pg_second pr)), ((g 4), aI K 64 (Pg_third pr)), ((g 5), aI K 8 (Pg_rules pr)), ((g 6), aI K 32 (Pg_data pr)), ((g 7), aI K 140 (Pg_names pr)), ((g 8), aI K 140 (Pg_namedPlaces pr))]) (wc := [((q 0), ob 5 [.ref (q 1), .int (Rd_filled v), .int (Rd_fault v), .int (Rd_faultPlace v), .ref (q 2), .ref (q 3), .ref (q 4), .ref (q 5), .int (Rd_limit v), .int (Rd_position v), .int (Rd_token v), .int (Rd_value v), .int (Rd_place v), .int (Rd_toldRules v), .int (Rd_toldData v)]), ((q 1), aB K 700 (Rd_tape v)), ((q 2), aI K 25 (Rd_words v)), ((q 3), aI K 75 (Rd_sorts v)), ((q 4), aI K 3 (Rd_parts v)), ((q 5), aI K 64 (Rd_wantedPlaces v)), ((g 0), ob 3 [.ref (g 1), .ref (g 2), .ref (g 3), .ref (g 4), .ref (g 5), .ref (g 6), .ref (g 7), .ref (g 8), .int (Pg_nameCount pr), .int (Pg_size pr), .int (Pg_lines pr)]), ((g 1), aI K 64 (Pg_code pr)), ((g 2), aI K 64 (Pg_first pr)), ((g 3), aI K 64 (Pg_second pr)), ((g 4), aI K 64 (Pg_third pr)), ((g 5), aI K 8 (Pg_rules pr)), ((g 6), aI K 32 (Pg_data pr)), ((g 7), aI K 140 (Pg_names pr)), ((g 8), aI K 140 (Pg_namedPlaces pr))]) (nn := 15) cx [.ref (g 0), .int a2] [] (m_Rd_readName l D K q v g pr a2 hc3) rfl yv_X6_readName wd_661 ⟨rfl, rfl⟩ (by decide) (fr_s (j := 0) rfl rfl rfl (fr_s (j := 1) rfl rfl rfl (fr_s (j := 2) rfl rfl rfl (fr_s (j := 3) rfl rfl rfl (fr_s (j := 4) rfl rfl rfl (fr_s (j := 5) rfl rfl rfl (fr_s (j := 6) rfl rfl rfl (fr_s (j := 7) rfl rfl rfl (fr_s (j := 8) rfl rfl rfl (fr_s (j := 9) rfl rfl rfl (fr_s (j := 10) rfl rfl rfl (fr_s (j := 11) rfl rfl rfl (fr_s (j := 12) rfl rfl rfl (fr_s (j := 13) rfl rfl rfl (fr_s (j := 14) rfl rfl rfl (fr_n)))))))))))))))) rfl (by decide) 0 rfl rfl rfl (Nat.le_of_ble_eq_true rfl) dX6_readPart_15 ?_
    refine r_goto (pc := 18) (tgt := 153) cx dX6_readPart_18 (by decide) ?_
    have hi := inj1 hf
    exact r_vret (pc := 153) cx (by rw [← hi]; rfl) dX6_readPart_153
  · replace hf := ifn h1 hf
    refine r_iload_n (pc := 6) cx dX6_readPart_6 2 rfl ?_
    refine r_bipush (pc := 7) cx dX6_readPart_7 bp_119 ?_
    refine r_icmp_ne (pc := 9) (tgt := 21) cx dX6_readPart_9 (by decide) (fun h4 => ?_) (fun h4 => ?_)
    · replace hf := ifn h4 hf
      refine r_aload_n (pc := 21) cx dX6_readPart_21 0 rfl ?_
      refine r_get (pc := 22) cx cf_X6 0 10 rfl (by decide) rfl wd_262 dX6_readPart_22 ?_
      refine r_iconst (pc := 25) cx dX6_readPart_25 ic_2 ?_
      refine r_icmp_eq (pc := 26) (tgt := 41) cx dX6_readPart_26 (by decide) (fun h5 => ?_) (fun h5 => ?_)
      · replace hf := ifp h5 hf
        refine r_aload_n (pc := 41) cx dX6_readPart_41 0 rfl ?_
        refine r_get (pc := 42) cx cf_X6 0 11 rfl (by decide) rfl wd_263 dX6_readPart_42 ?_
        refine r_aload_n (pc := 45) cx dX6_readPart_45 0 rfl ?_
        refine r_iload_n (pc := 46) cx dX6_readPart_46 2 rfl ?_
        replace hf := bd_of hf
        obtain ⟨r6, hc7, hf⟩ := hf
        refine r_Vi (pc := 47) (ws' := [((q 0), ob 5 [.ref (q 1), .int (Rd_filled v), .int (Rd_fault v), .int (Rd_faultPlace v), .ref (q 2), .ref (q 3), .ref (q 4), .ref (q 5), .int (Rd_limit v), .int (Rd_position v), .int (Rd_token v), .int (Rd_value v), .int (Rd_place v), .int (Rd_toldRules v), .int (Rd_toldData v)]), ((q 1), aB K 700 (Rd_tape v)), ((q 2), aI K 25 (Rd_words v)), ((q 3), aI K 75 (Rd_sorts v)), ((q 4), aI K 3 (Rd_parts v)), ((q 5), aI K 64 (Rd_wantedPlaces v)), ((g 0), ob 3 [.ref (g 1), .ref (g 2), .ref (g 3), .ref (g 4), .ref (g 5), .ref (g 6), .ref (g 7), .ref (g 8), .int (Pg_nameCount pr), .int (Pg_size pr), .int (Pg_lines pr)]), ((g 1), aI K 64 (Pg_code pr)), ((g 2), aI K 64 (Pg_first pr)), ((g 3), aI K 64 (Pg_second pr)), ((g 4), aI K 64 (Pg_third pr)), ((g 5), aI K 8 (Pg_rules pr)), ((g 6), aI K 32 (Pg_data pr)), ((g 7), aI K 140 (Pg_names pr)), ((g 8), aI K 140 (Pg_namedPlaces pr))]) (wc := [((q 0), ob 5 [.ref (q 1), .int (Rd_filled v), .int (Rd_fault v), .int (Rd_faultPlace v), .ref (q 2), .ref (q 3), .ref (q 4), .ref (q 5), .int (Rd_limit v), .int (Rd_position v), .int (Rd_token v), .int (Rd_value v), .int (Rd_place v), .int (Rd_toldRules v), .int (Rd_toldData v)]), ((q 1), aB K 700 (Rd_tape v)), ((q 2), aI K 25 (Rd_words v)), ((q 3), aI K 75 (Rd_sorts v)), ((q 4), aI K 3 (Rd_parts v)), ((q 5), aI K 64 (Rd_wantedPlaces v))]) (nn := 6) cx [.int a2] [.int (Rd_value v)] (m_Rd_least l D K q v a2 hc7) rfl yv_X6_least wd_669 ⟨rfl, rfl⟩ (by decide) (fr_s (j := 0) rfl rfl rfl (fr_s (j := 1) rfl rfl rfl (fr_s (j := 2) rfl rfl rfl (fr_s (j := 3) rfl rfl rfl (fr_s (j := 4) rfl rfl rfl (fr_s (j := 5) rfl rfl rfl (fr_k (fr_k (fr_k (fr_k (fr_k (fr_k (fr_k (fr_k (fr_k (fr_n)))))))))))))))) rfl (by decide) 0 rfl rfl rfl (Nat.le_of_ble_eq_true rfl) dX6_readPart_47 ?_
        refine r_icmp_lt (pc := 50) (tgt := 64) cx dX6_readPart_50 (by decide) (fun h8 => ?_) (fun h8 => ?_)
        · replace hf := ifp h8 hf
          refine r_aload_n (pc := 64) cx dX6_readPart_64 0 rfl ?_
          refine r_iconst (pc := 65) cx dX6_readPart_65 ic_2 ?_
          refine r_aload_n (pc := 66) cx dX6_readPart_66 0 rfl ?_
          refine r_get (pc := 67) cx cf_X6 0 12 rfl (by decide) rfl wd_264 dX6_readPart_67 ?_
          replace hf := bd_of hf
          obtain ⟨v9, hc10, hf⟩ := hf
          refine r_Vv (pc := 70) (ws' := [((q 0), ob 5 [.ref (q 1), .int (Rd_filled v9), .int (Rd_fault v9), .int (Rd_faultPlace v9), .ref (q 2), .ref (q 3), .ref (q 4), .ref (q 5), .int (Rd_limit v9), .int (Rd_position v9), .int (Rd_token v9), .int (Rd_value v9), .int (Rd_place v9), .int (Rd_toldRules v9), .int (Rd_toldData v9)]), ((q 1), aB K 700 (Rd_tape v9)), ((q 2), aI K 25 (Rd_words v9)), ((q 3), aI K 75 (Rd_sorts v9)), ((q 4), aI K 3 (Rd_parts v9)), ((q 5), aI K 64 (Rd_wantedPlaces v9)), ((g 0), ob 3 [.ref (g 1), .ref (g 2), .ref (g 3), .ref (g 4), .ref (g 5), .ref (g 6), .ref (g 7), .ref (g 8), .int (Pg_nameCount pr), .int (Pg_size pr), .int (Pg_lines pr)]), ((g 1), aI K 64 (Pg_code pr)), ((g 2), aI K 64 (Pg_first pr)), ((g 3), aI K 64 (Pg_second pr)), ((g 4), aI K 64 (Pg_third pr)), ((g 5), aI K 8 (Pg_rules pr)), ((g 6), aI K 32 (Pg_data pr)), ((g 7), aI K 140 (Pg_names pr)), ((g 8), aI K 140 (Pg_namedPlaces pr))]) (wc := [((q 0), ob 5 [.ref (q 1), .int (Rd_filled v), .int (Rd_fault v), .int (Rd_faultPlace v), .ref (q 2), .ref (q 3), .ref (q 4), .ref (q 5), .int (Rd_limit v), .int (Rd_position v), .int (Rd_token v), .int (Rd_value v), .int (Rd_place v), .int (Rd_toldRules v), .int (Rd_toldData v)]), ((q 1), aB K 700 (Rd_tape v)), ((q 2), aI K 25 (Rd_words v)), ((q 3), aI K 75 (Rd_sorts v)), ((q 4), aI K 3 (Rd_parts v)), ((q 5), aI K 64 (Rd_wantedPlaces v))]) (nn := 6) cx [.int (2 : Int32), .int (Rd_place v)] [] (m_Rd_fail l D K q v (2 : Int32) (Rd_place v) hc10) rfl yv_X6_fail wd_649 ⟨rfl, rfl⟩ (by decide) (fr_s (j := 0) rfl rfl rfl (fr_s (j := 1) rfl rfl rfl (fr_s (j := 2) rfl rfl rfl (fr_s (j := 3) rfl rfl rfl (fr_s (j := 4) rfl rfl rfl (fr_s (j := 5) rfl rfl rfl (fr_k (fr_k (fr_k (fr_k (fr_k (fr_k (fr_k (fr_k (fr_k (fr_n)))))))))))))))) rfl (by decide) 0 rfl rfl rfl (Nat.le_of_ble_eq_true rfl) dX6_readPart_70 ?_
          refine r_goto (pc := 73) (tgt := 153) cx dX6_readPart_73 (by decide) ?_
          have hi := inj1 hf
          exact r_vret (pc := 153) cx (by rw [← hi]; rfl) dX6_readPart_153
        · replace hf := ifn h8 hf
          refine r_aload_n (pc := 53) cx dX6_readPart_53 0 rfl ?_
          refine r_get (pc := 54) cx cf_X6 0 11 rfl (by decide) rfl wd_263 dX6_readPart_54 ?_
          refine r_iload_n (pc := 57) cx dX6_readPart_57 2 rfl ?_
          replace hf := bd_of hf
          obtain ⟨r11, hc12, hf⟩ := hf
          refine r_Si (pc := 58) (ws' := [((q 0), ob 5 [.ref (q 1), .int (Rd_filled v), .int (Rd_fault v), .int (Rd_faultPlace v), .ref (q 2), .ref (q 3), .ref (q 4), .ref (q 5), .int (Rd_limit v), .int (Rd_position v), .int (Rd_token v), .int (Rd_value v), .int (Rd_place v), .int (Rd_toldRules v), .int (Rd_toldData v)]), ((q 1), aB K 700 (Rd_tape v)), ((q 2), aI K 25 (Rd_words v)), ((q 3), aI K 75 (Rd_sorts v)), ((q 4), aI K 3 (Rd_parts v)), ((q 5), aI K 64 (Rd_wantedPlaces v)), ((g 0), ob 3 [.ref (g 1), .ref (g 2), .ref (g 3), .ref (g 4), .ref (g 5), .ref (g 6), .ref (g 7), .ref (g 8), .int (Pg_nameCount pr), .int (Pg_size pr), .int (Pg_lines pr)]), ((g 1), aI K 64 (Pg_code pr)), ((g 2), aI K 64 (Pg_first pr)), ((g 3), aI K 64 (Pg_second pr)), ((g 4), aI K 64 (Pg_third pr)), ((g 5), aI K 8 (Pg_rules pr)), ((g 6), aI K 32 (Pg_data pr)), ((g 7), aI K 140 (Pg_names pr)), ((g 8), aI K 140 (Pg_namedPlaces pr))]) (wc := []) (nn := 0) cx [.int a2] [.int (Rd_value v)] (m_Rd_greatest l D K a2 hc12) rfl ys_X6_greatest wd_673 ⟨rfl, rfl⟩ (by decide) (fr_k (fr_k (fr_k (fr_k (fr_k (fr_k (fr_k (fr_k (fr_k (fr_k (fr_k (fr_k (fr_k (fr_k (fr_k (fr_n)))))))))))))))) rfl (by decide) rfl (Nat.le_of_ble_eq_true rfl) dX6_readPart_58 ?_
          refine r_icmp_le (pc := 61) (tgt := 76) cx dX6_readPart_61 (by decide) (fun h13 => ?_) (fun h13 => ?_)
          · replace hf := ifp h13 hf
            refine r_iload_n (pc := 76) cx dX6_readPart_76 2 rfl ?_
            refine r_bipush (pc := 77) cx dX6_readPart_77 bp_100 ?_
            refine r_icmp_ne (pc := 79) (tgt := 109) cx dX6_readPart_79 (by decide) (fun h14 => ?_) (fun h14 => ?_)
            · replace hf := ifn h14 hf
              refine r_aload_n (pc := 109) cx dX6_readPart_109 0 rfl ?_
              refine r_dup (pc := 110) cx dX6_readPart_110 rfl ?_
              refine r_get (pc := 111) cx cf_X6 0 14 rfl (by decide) rfl wd_266 dX6_readPart_111 ?_
              refine r_iload_n (pc := 114) cx dX6_readPart_114 2 rfl ?_
              refine r_bipush (pc := 115) cx dX6_readPart_115 bp_100 ?_
              replace hf := nm_of hf
              obtain ⟨J16, eJ16, hf⟩ := hf
              have hJ16 : ∀ (y15 : Int32), J16 y15 = some o_v → WW p l e rm_Rd_readPart s m args below meth c D A 4 0 0 (MQ below (QV D K A (cl_Rd K q o_v ++ (cl_Pg K g pr))) args s 0 0 A) ([((q 0), ob 5 [.ref (q 1), .int (Rd_filled v), .int (Rd_fault v), .int (Rd_faultPlace v), .ref (q 2), .ref (q 3), .ref (q 4), .ref (q 5), .int (Rd_limit v), .int (Rd_position v), .int (Rd_token v), .int (Rd_value v), .int (Rd_place v), .int (Rd_toldRules v), .int (Rd_toldData v)]), ((q 1), aB K 700 (Rd_tape v)), ((q 2), aI K 25 (Rd_words v)), ((q 3), aI K 75 (Rd_sorts v)), ((q 4), aI K 3 (Rd_parts v)), ((q 5), aI K 64 (Rd_wantedPlaces v)), ((g 0), ob 3 [.ref (g 1), .ref (g 2), .ref (g 3), .ref (g 4), .ref (g 5), .ref (g 6), .ref (g 7), .ref (g 8), .int (Pg_nameCount pr), .int (Pg_size pr), .int (Pg_lines pr)]), ((g 1), aI K 64 (Pg_code pr)), ((g 2), aI K 64 (Pg_first pr)), ((g 3), aI K 64 (Pg_second pr)), ((g 4), aI K 64 (Pg_third pr)), ((g 5), aI K 8 (Pg_rules pr)), ((g 6), aI K 32 (Pg_data pr)), ((g 7), aI K 140 (Pg_names pr)), ((g 8), aI K 140 (Pg_namedPlaces pr))]) ([(0, .ref (q 0)), (3, .int a3)]) ([.int y15, .int (Rd_toldData v), .ref (q 0)]) 130 := by
                clear hf
                intro y15 hf
                rw [eJ16] at hf
                refine r_ior (pc := 130) cx dX6_readPart_130 ?_
                replace hf := nm_of hf
                obtain ⟨x17, ex17, hf⟩ := hf
                refine r_nm ex17 ?_
                refine r_putI (pc := 131) (ws' := [((q 0), ob 5 [.ref (q 1), .int (Rd_filled v), .int (Rd_fault v), .int (Rd_faultPlace v), .ref (q 2), .ref (q 3), .ref (q 4), .ref (q 5), .int (Rd_limit v), .int (Rd_position v), .int (Rd_token v), .int (Rd_value v), .int (Rd_place v), .int (Rd_toldRules v), .int x17]), ((q 1), aB K 700 (Rd_tape v)), ((q 2), aI K 25 (Rd_words v)), ((q 3), aI K 75 (Rd_sorts v)), ((q 4), aI K 3 (Rd_parts v)), ((q 5), aI K 64 (Rd_wantedPlaces v)), ((g 0), ob 3 [.ref (g 1), .ref (g 2), .ref (g 3), .ref (g 4), .ref (g 5), .ref (g 6), .ref (g 7), .ref (g 8), .int (Pg_nameCount pr), .int (Pg_size pr), .int (Pg_lines pr)]), ((g 1), aI K 64 (Pg_code pr)), ((g 2), aI K 64 (Pg_first pr)), ((g 3), aI K 64 (Pg_second pr)), ((g 4), aI K 64 (Pg_third pr)), ((g 5), aI K 8 (Pg_rules pr)), ((g 6), aI K 32 (Pg_data pr)), ((g 7), aI K 140 (Pg_names pr)), ((g 8), aI K 140 (Pg_namedPlaces pr))]) cx cf_X6 0 14 rfl (by decide) (Nat.le_of_ble_eq_true rfl) rfl pfd_I wd_266 dX6_readPart_131 rfl ?_
                refine r_iload_n (pc := 134) cx dX6_readPart_134 1 rfl ?_
                refine r_if_lt (pc := 135) (tgt := 153) cx dX6_readPart_135 (by decide) (fun h18 => ?_) (fun h18 => ?_)
                · replace hf := ifp h18 hf
                  have hi := inj1 hf
                  exact r_vret (pc := 153) cx (by rw [← hi]; (try simp only [cl_Rd, Rd_tape_mk, Rd_filled_mk, Rd_fault_mk, Rd_faultPlace_mk, Rd_words_mk, Rd_sorts_mk, Rd_parts_mk, Rd_wantedPlaces_mk, Rd_limit_mk, Rd_position_mk, Rd_token_mk, Rd_value_mk, Rd_place_mk, Rd_toldRules_mk, Rd_toldData_mk, cl_Pg, Pg_code_mk, Pg_first_mk, Pg_second_mk, Pg_third_mk, Pg_rules_mk, Pg_data_mk, Pg_names_mk, Pg_namedPlaces_mk, Pg_nameCount_mk, Pg_size_mk, Pg_lines_mk, List.cons_append, List.nil_append, List.append_nil]) <;> rfl) dX6_readPart_153
                · replace hf := ifn h18 hf
                  refine r_iload_n (pc := 138) cx dX6_readPart_138 1 rfl ?_
                  refine r_iconst (pc := 139) cx dX6_readPart_139 ic_3 ?_
                  refine r_icmp_ge (pc := 140) (tgt := 153) cx dX6_readPart_140 (by decide) (fun h19 => ?_) (fun h19 => ?_)
                  · replace hf := ifp h19 hf
                    have hi := inj1 hf
                    exact r_vret (pc := 153) cx (by rw [← hi]; (try simp only [cl_Rd, Rd_tape_mk, Rd_filled_mk, Rd_fault_mk, Rd_faultPlace_mk, Rd_words_mk, Rd_sorts_mk, Rd_parts_mk, Rd_wantedPlaces_mk, Rd_limit_mk, Rd_position_mk, Rd_token_mk, Rd_value_mk, Rd_place_mk, Rd_toldRules_mk, Rd_toldData_mk, cl_Pg, Pg_code_mk, Pg_first_mk, Pg_second_mk, Pg_third_mk, Pg_rules_mk, Pg_data_mk, Pg_names_mk, Pg_namedPlaces_mk, Pg_nameCount_mk, Pg_size_mk, Pg_lines_mk, List.cons_append, List.nil_append, List.append_nil]) <;> rfl) dX6_readPart_153
                  · replace hf := ifn h19 hf
                    refine r_aload_n (pc := 143) cx dX6_readPart_143 0 rfl ?_
                    refine r_get (pc := 144) cx cf_X6 0 6 rfl (by decide) rfl wd_258 dX6_readPart_144 ?_
                    refine r_iload_n (pc := 147) cx dX6_readPart_147 1 rfl ?_
                    refine r_aload_n (pc := 148) cx dX6_readPart_148 0 rfl ?_
                    refine r_get (pc := 149) cx cf_X6 0 11 rfl (by decide) rfl wd_263 dX6_readPart_149 ?_
                    replace hf := nm_of hf
                    obtain ⟨x20, ex20, hf⟩ := hf
                    refine r_nm ex20 ?_
                    replace hf := chk_of hf
                    obtain ⟨h21, hf⟩ := hf
                    replace hf := nm_of hf
                    obtain ⟨f22, ef22, hf⟩ := hf
                    refine r_iast (pc := 152) (ws' := [((q 0), ob 5 [.ref (q 1), .int (Rd_filled v), .int (Rd_fault v), .int (Rd_faultPlace v), .ref (q 2), .ref (q 3), .ref (q 4), .ref (q 5), .int (Rd_limit v), .int (Rd_position v), .int (Rd_token v), .int (Rd_value v), .int (Rd_place v), .int (Rd_toldRules v), .int x17]), ((q 1), aB K 700 (Rd_tape v)), ((q 2), aI K 25 (Rd_words v)), ((q 3), aI K 75 (Rd_sorts v)), ((q 4), aI K 3 f22), ((q 5), aI K 64 (Rd_wantedPlaces v)), ((g 0), ob 3 [.ref (g 1), .ref (g 2), .ref (g 3), .ref (g 4), .ref (g 5), .ref (g 6), .ref (g 7), .ref (g 8), .int (Pg_nameCount pr), .int (Pg_size pr), .int (Pg_lines pr)]), ((g 1), aI K 64 (Pg_code pr)), ((g 2), aI K 64 (Pg_first pr)), ((g 3), aI K 64 (Pg_second pr)), ((g 4), aI K 64 (Pg_third pr)), ((g 5), aI K 8 (Pg_rules pr)), ((g 6), aI K 32 (Pg_data pr)), ((g 7), aI K 140 (Pg_names pr)), ((g 8), aI K 140 (Pg_namedPlaces pr))]) cx 4 rfl h21 dX6_readPart_152 ef22 rfl ?_
                    have hi := inj1 hf
                    exact r_vret (pc := 153) cx (by rw [← hi]; (try simp only [cl_Rd, Rd_tape_mk, Rd_filled_mk, Rd_fault_mk, Rd_faultPlace_mk, Rd_words_mk, Rd_sorts_mk, Rd_parts_mk, Rd_wantedPlaces_mk, Rd_limit_mk, Rd_position_mk, Rd_token_mk, Rd_value_mk, Rd_place_mk, Rd_toldRules_mk, Rd_toldData_mk, cl_Pg, Pg_code_mk, Pg_first_mk, Pg_second_mk, Pg_third_mk, Pg_rules_mk, Pg_data_mk, Pg_names_mk, Pg_namedPlaces_mk, Pg_nameCount_mk, Pg_size_mk, Pg_lines_mk, List.cons_append, List.nil_append, List.append_nil]) <;> rfl) dX6_readPart_153
              refine r_icmp_ne (pc := 117) (tgt := 129) cx dX6_readPart_117 (by decide) (fun h23 => ?_) (fun h23 => ?_)
              · replace hf := ifn h23 hf
                refine r_iconst (pc := 129) cx dX6_readPart_129 ic_0 ?_
                refine r_loc (loc' := [(0, .ref (q 0)), (3, .int a3)]) [0, 3] rfl ?_
                exact hJ16 _ hf
              · replace hf := ifp h23 hf
                refine r_iconst (pc := 120) cx dX6_readPart_120 ic_1 ?_
                refine r_aload_n (pc := 121) cx dX6_readPart_121 0 rfl ?_
                refine r_get (pc := 122) cx cf_X6 0 11 rfl (by decide) rfl wd_263 dX6_readPart_122 ?_
                refine r_ishl (pc := 125) cx dX6_readPart_125 ?_
                refine r_goto (pc := 126) (tgt := 130) cx dX6_readPart_126 (by decide) ?_
                refine r_loc (loc' := [(0, .ref (q 0)), (3, .int a3)]) [0, 3] rfl ?_
                exact hJ16 _ hf
            · replace hf := ifp h14 hf
              refine r_aload_n (pc := 82) cx dX6_readPart_82 0 rfl ?_
              refine r_get (pc := 83) cx cf_X6 0 14 rfl (by decide) rfl wd_266 dX6_readPart_83 ?_
              refine r_aload_n (pc := 86) cx dX6_readPart_86 0 rfl ?_
              refine r_get (pc := 87) cx cf_X6 0 11 rfl (by decide) rfl wd_263 dX6_readPart_87 ?_
              refine r_ishr (pc := 90) cx dX6_readPart_90 ?_
              refine r_iconst (pc := 91) cx dX6_readPart_91 ic_1 ?_
              refine r_iand (pc := 92) cx dX6_readPart_92 ?_
              refine r_iconst (pc := 93) cx dX6_readPart_93 ic_1 ?_
              refine r_icmp_ne (pc := 94) (tgt := 109) cx dX6_readPart_94 (by decide) (fun h24 => ?_) (fun h24 => ?_)
              · replace hf := ifn h24 hf
                refine r_aload_n (pc := 109) cx dX6_readPart_109 0 rfl ?_
                refine r_dup (pc := 110) cx dX6_readPart_110 rfl ?_
                refine r_get (pc := 111) cx cf_X6 0 14 rfl (by decide) rfl wd_266 dX6_readPart_111 ?_
                refine r_iload_n (pc := 114) cx dX6_readPart_114 2 rfl ?_
                refine r_bipush (pc := 115) cx dX6_readPart_115 bp_100 ?_
                replace hf := nm_of hf
                obtain ⟨J26, eJ26, hf⟩ := hf
                have hJ26 : ∀ (y25 : Int32), J26 y25 = some o_v → WW p l e rm_Rd_readPart s m args below meth c D A 4 0 0 (MQ below (QV D K A (cl_Rd K q o_v ++ (cl_Pg K g pr))) args s 0 0 A) ([((q 0), ob 5 [.ref (q 1), .int (Rd_filled v), .int (Rd_fault v), .int (Rd_faultPlace v), .ref (q 2), .ref (q 3), .ref (q 4), .ref (q 5), .int (Rd_limit v), .int (Rd_position v), .int (Rd_token v), .int (Rd_value v), .int (Rd_place v), .int (Rd_toldRules v), .int (Rd_toldData v)]), ((q 1), aB K 700 (Rd_tape v)), ((q 2), aI K 25 (Rd_words v)), ((q 3), aI K 75 (Rd_sorts v)), ((q 4), aI K 3 (Rd_parts v)), ((q 5), aI K 64 (Rd_wantedPlaces v)), ((g 0), ob 3 [.ref (g 1), .ref (g 2), .ref (g 3), .ref (g 4), .ref (g 5), .ref (g 6), .ref (g 7), .ref (g 8), .int (Pg_nameCount pr), .int (Pg_size pr), .int (Pg_lines pr)]), ((g 1), aI K 64 (Pg_code pr)), ((g 2), aI K 64 (Pg_first pr)), ((g 3), aI K 64 (Pg_second pr)), ((g 4), aI K 64 (Pg_third pr)), ((g 5), aI K 8 (Pg_rules pr)), ((g 6), aI K 32 (Pg_data pr)), ((g 7), aI K 140 (Pg_names pr)), ((g 8), aI K 140 (Pg_namedPlaces pr))]) ([(0, .ref (q 0)), (3, .int a3)]) ([.int y25, .int (Rd_toldData v), .ref (q 0)]) 130 := by
                  clear hf
                  intro y25 hf
                  rw [eJ26] at hf
                  refine r_ior (pc := 130) cx dX6_readPart_130 ?_
                  replace hf := nm_of hf
                  obtain ⟨x27, ex27, hf⟩ := hf
                  refine r_nm ex27 ?_
                  refine r_putI (pc := 131) (ws' := [((q 0), ob 5 [.ref (q 1), .int (Rd_filled v), .int (Rd_fault v), .int (Rd_faultPlace v), .ref (q 2), .ref (q 3), .ref (q 4), .ref (q 5), .int (Rd_limit v), .int (Rd_position v), .int (Rd_token v), .int (Rd_value v), .int (Rd_place v), .int (Rd_toldRules v), .int x27]), ((q 1), aB K 700 (Rd_tape v)), ((q 2), aI K 25 (Rd_words v)), ((q 3), aI K 75 (Rd_sorts v)), ((q 4), aI K 3 (Rd_parts v)), ((q 5), aI K 64 (Rd_wantedPlaces v)), ((g 0), ob 3 [.ref (g 1), .ref (g 2), .ref (g 3), .ref (g 4), .ref (g 5), .ref (g 6), .ref (g 7), .ref (g 8), .int (Pg_nameCount pr), .int (Pg_size pr), .int (Pg_lines pr)]), ((g 1), aI K 64 (Pg_code pr)), ((g 2), aI K 64 (Pg_first pr)), ((g 3), aI K 64 (Pg_second pr)), ((g 4), aI K 64 (Pg_third pr)), ((g 5), aI K 8 (Pg_rules pr)), ((g 6), aI K 32 (Pg_data pr)), ((g 7), aI K 140 (Pg_names pr)), ((g 8), aI K 140 (Pg_namedPlaces pr))]) cx cf_X6 0 14 rfl (by decide) (Nat.le_of_ble_eq_true rfl) rfl pfd_I wd_266 dX6_readPart_131 rfl ?_
                  refine r_iload_n (pc := 134) cx dX6_readPart_134 1 rfl ?_
                  refine r_if_lt (pc := 135) (tgt := 153) cx dX6_readPart_135 (by decide) (fun h28 => ?_) (fun h28 => ?_)
                  · replace hf := ifp h28 hf
                    have hi := inj1 hf
                    exact r_vret (pc := 153) cx (by rw [← hi]; (try simp only [cl_Rd, Rd_tape_mk, Rd_filled_mk, Rd_fault_mk, Rd_faultPlace_mk, Rd_words_mk, Rd_sorts_mk, Rd_parts_mk, Rd_wantedPlaces_mk, Rd_limit_mk, Rd_position_mk, Rd_token_mk, Rd_value_mk, Rd_place_mk, Rd_toldRules_mk, Rd_toldData_mk, cl_Pg, Pg_code_mk, Pg_first_mk, Pg_second_mk, Pg_third_mk, Pg_rules_mk, Pg_data_mk, Pg_names_mk, Pg_namedPlaces_mk, Pg_nameCount_mk, Pg_size_mk, Pg_lines_mk, List.cons_append, List.nil_append, List.append_nil]) <;> rfl) dX6_readPart_153
                  · replace hf := ifn h28 hf
                    refine r_iload_n (pc := 138) cx dX6_readPart_138 1 rfl ?_
                    refine r_iconst (pc := 139) cx dX6_readPart_139 ic_3 ?_
                    refine r_icmp_ge (pc := 140) (tgt := 153) cx dX6_readPart_140 (by decide) (fun h29 => ?_) (fun h29 => ?_)
                    · replace hf := ifp h29 hf
                      have hi := inj1 hf
                      exact r_vret (pc := 153) cx (by rw [← hi]; (try simp only [cl_Rd, Rd_tape_mk, Rd_filled_mk, Rd_fault_mk, Rd_faultPlace_mk, Rd_words_mk, Rd_sorts_mk, Rd_parts_mk, Rd_wantedPlaces_mk, Rd_limit_mk, Rd_position_mk, Rd_token_mk, Rd_value_mk, Rd_place_mk, Rd_toldRules_mk, Rd_toldData_mk, cl_Pg, Pg_code_mk, Pg_first_mk, Pg_second_mk, Pg_third_mk, Pg_rules_mk, Pg_data_mk, Pg_names_mk, Pg_namedPlaces_mk, Pg_nameCount_mk, Pg_size_mk, Pg_lines_mk, List.cons_append, List.nil_append, List.append_nil]) <;> rfl) dX6_readPart_153
                    · replace hf := ifn h29 hf
                      refine r_aload_n (pc := 143) cx dX6_readPart_143 0 rfl ?_
                      refine r_get (pc := 144) cx cf_X6 0 6 rfl (by decide) rfl wd_258 dX6_readPart_144 ?_
                      refine r_iload_n (pc := 147) cx dX6_readPart_147 1 rfl ?_
                      refine r_aload_n (pc := 148) cx dX6_readPart_148 0 rfl ?_
                      refine r_get (pc := 149) cx cf_X6 0 11 rfl (by decide) rfl wd_263 dX6_readPart_149 ?_
                      replace hf := nm_of hf
                      obtain ⟨x30, ex30, hf⟩ := hf
                      refine r_nm ex30 ?_
                      replace hf := chk_of hf
                      obtain ⟨h31, hf⟩ := hf
                      replace hf := nm_of hf
                      obtain ⟨f32, ef32, hf⟩ := hf
                      refine r_iast (pc := 152) (ws' := [((q 0), ob 5 [.ref (q 1), .int (Rd_filled v), .int (Rd_fault v), .int (Rd_faultPlace v), .ref (q 2), .ref (q 3), .ref (q 4), .ref (q 5), .int (Rd_limit v), .int (Rd_position v), .int (Rd_token v), .int (Rd_value v), .int (Rd_place v), .int (Rd_toldRules v), .int x27]), ((q 1), aB K 700 (Rd_tape v)), ((q 2), aI K 25 (Rd_words v)), ((q 3), aI K 75 (Rd_sorts v)), ((q 4), aI K 3 f32), ((q 5), aI K 64 (Rd_wantedPlaces v)), ((g 0), ob 3 [.ref (g 1), .ref (g 2), .ref (g 3), .ref (g 4), .ref (g 5), .ref (g 6), .ref (g 7), .ref (g 8), .int (Pg_nameCount pr), .int (Pg_size pr), .int (Pg_lines pr)]), ((g 1), aI K 64 (Pg_code pr)), ((g 2), aI K 64 (Pg_first pr)), ((g 3), aI K 64 (Pg_second pr)), ((g 4), aI K 64 (Pg_third pr)), ((g 5), aI K 8 (Pg_rules pr)), ((g 6), aI K 32 (Pg_data pr)), ((g 7), aI K 140 (Pg_names pr)), ((g 8), aI K 140 (Pg_namedPlaces pr))]) cx 4 rfl h31 dX6_readPart_152 ef32 rfl ?_
                      have hi := inj1 hf
                      exact r_vret (pc := 153) cx (by rw [← hi]; (try simp only [cl_Rd, Rd_tape_mk, Rd_filled_mk, Rd_fault_mk, Rd_faultPlace_mk, Rd_words_mk, Rd_sorts_mk, Rd_parts_mk, Rd_wantedPlaces_mk, Rd_limit_mk, Rd_position_mk, Rd_token_mk, Rd_value_mk, Rd_place_mk, Rd_toldRules_mk, Rd_toldData_mk, cl_Pg, Pg_code_mk, Pg_first_mk, Pg_second_mk, Pg_third_mk, Pg_rules_mk, Pg_data_mk, Pg_names_mk, Pg_namedPlaces_mk, Pg_nameCount_mk, Pg_size_mk, Pg_lines_mk, List.cons_append, List.nil_append, List.append_nil]) <;> rfl) dX6_readPart_153
                refine r_icmp_ne (pc := 117) (tgt := 129) cx dX6_readPart_117 (by decide) (fun h33 => ?_) (fun h33 => ?_)
                · replace hf := ifn h33 hf
                  refine r_iconst (pc := 129) cx dX6_readPart_129 ic_0 ?_
                  refine r_loc (loc' := [(0, .ref (q 0)), (3, .int a3)]) [0, 3] rfl ?_
                  exact hJ26 _ hf
                · replace hf := ifp h33 hf
                  refine r_iconst (pc := 120) cx dX6_readPart_120 ic_1 ?_
                  refine r_aload_n (pc := 121) cx dX6_readPart_121 0 rfl ?_
                  refine r_get (pc := 122) cx cf_X6 0 11 rfl (by decide) rfl wd_263 dX6_readPart_122 ?_
                  refine r_ishl (pc := 125) cx dX6_readPart_125 ?_
                  refine r_goto (pc := 126) (tgt := 130) cx dX6_readPart_126 (by decide) ?_
                  refine r_loc (loc' := [(0, .ref (q 0)), (3, .int a3)]) [0, 3] rfl ?_
                  exact hJ26 _ hf
              · replace hf := ifp h24 hf
                refine r_aload_n (pc := 97) cx dX6_readPart_97 0 rfl ?_
                refine r_iconst (pc := 98) cx dX6_readPart_98 ic_3 ?_
                refine r_aload_n (pc := 99) cx dX6_readPart_99 0 rfl ?_
                refine r_get (pc := 100) cx cf_X6 0 12 rfl (by decide) rfl wd_264 dX6_readPart_100 ?_
                replace hf := bd_of hf
                obtain ⟨v34, hc35, hf⟩ := hf
                refine r_Vv (pc := 103) (ws' := [((q 0), ob 5 [.ref (q 1), .int (Rd_filled v34), .int (Rd_fault v34), .int (Rd_faultPlace v34), .ref (q 2), .ref (q 3), .ref (q 4), .ref (q 5), .int (Rd_limit v34), .int (Rd_position v34), .int (Rd_token v34), .int (Rd_value v34), .int (Rd_place v34), .int (Rd_toldRules v34), .int (Rd_toldData v34)]), ((q 1), aB K 700 (Rd_tape v34)), ((q 2), aI K 25 (Rd_words v34)), ((q 3), aI K 75 (Rd_sorts v34)), ((q 4), aI K 3 (Rd_parts v34)), ((q 5), aI K 64 (Rd_wantedPlaces v34)), ((g 0), ob 3 [.ref (g 1), .ref (g 2), .ref (g 3), .ref (g 4), .ref (g 5), .ref (g 6), .ref (g 7), .ref (g 8), .int (Pg_nameCount pr), .int (Pg_size pr), .int (Pg_lines pr)]), ((g 1), aI K 64 (Pg_code pr)), ((g 2), aI K 64 (Pg_first pr)), ((g 3), aI K 64 (Pg_second pr)), ((g 4), aI K 64 (Pg_third pr)), ((g 5), aI K 8 (Pg_rules pr)), ((g 6), aI K 32 (Pg_data pr)), ((g 7), aI K 140 (Pg_names pr)), ((g 8), aI K 140 (Pg_namedPlaces pr))]) (wc := [((q 0), ob 5 [.ref (q 1), .int (Rd_filled v), .int (Rd_fault v), .int (Rd_faultPlace v), .ref (q 2), .ref (q 3), .ref (q 4), .ref (q 5), .int (Rd_limit v), .int (Rd_position v), .int (Rd_token v), .int (Rd_value v), .int (Rd_place v), .int (Rd_toldRules v), .int (Rd_toldData v)]), ((q 1), aB K 700 (Rd_tape v)), ((q 2), aI K 25 (Rd_words v)), ((q 3), aI K 75 (Rd_sorts v)), ((q 4), aI K 3 (Rd_parts v)), ((q 5), aI K 64 (Rd_wantedPlaces v))]) (nn := 6) cx [.int (3 : Int32), .int (Rd_place v)] [] (m_Rd_fail l D K q v (3 : Int32) (Rd_place v) hc35) rfl yv_X6_fail wd_649 ⟨rfl, rfl⟩ (by decide) (fr_s (j := 0) rfl rfl rfl (fr_s (j := 1) rfl rfl rfl (fr_s (j := 2) rfl rfl rfl (fr_s (j := 3) rfl rfl rfl (fr_s (j := 4) rfl rfl rfl (fr_s (j := 5) rfl rfl rfl (fr_k (fr_k (fr_k (fr_k (fr_k (fr_k (fr_k (fr_k (fr_k (fr_n)))))))))))))))) rfl (by decide) 0 rfl rfl rfl (Nat.le_of_ble_eq_true rfl) dX6_readPart_103 ?_
                refine r_goto (pc := 106) (tgt := 153) cx dX6_readPart_106 (by decide) ?_
                have hi := inj1 hf
                exact r_vret (pc := 153) cx (by rw [← hi]; rfl) dX6_readPart_153
          · replace hf := ifn h13 hf
            refine r_aload_n (pc := 64) cx dX6_readPart_64 0 rfl ?_
            refine r_iconst (pc := 65) cx dX6_readPart_65 ic_2 ?_
            refine r_aload_n (pc := 66) cx dX6_readPart_66 0 rfl ?_
            refine r_get (pc := 67) cx cf_X6 0 12 rfl (by decide) rfl wd_264 dX6_readPart_67 ?_
            replace hf := bd_of hf
            obtain ⟨v36, hc37, hf⟩ := hf
            refine r_Vv (pc := 70) (ws' := [((q 0), ob 5 [.ref (q 1), .int (Rd_filled v36), .int (Rd_fault v36), .int (Rd_faultPlace v36), .ref (q 2), .ref (q 3), .ref (q 4), .ref (q 5), .int (Rd_limit v36), .int (Rd_position v36), .int (Rd_token v36), .int (Rd_value v36), .int (Rd_place v36), .int (Rd_toldRules v36), .int (Rd_toldData v36)]), ((q 1), aB K 700 (Rd_tape v36)), ((q 2), aI K 25 (Rd_words v36)), ((q 3), aI K 75 (Rd_sorts v36)), ((q 4), aI K 3 (Rd_parts v36)), ((q 5), aI K 64 (Rd_wantedPlaces v36)), ((g 0), ob 3 [.ref (g 1), .ref (g 2), .ref (g 3), .ref (g 4), .ref (g 5), .ref (g 6), .ref (g 7), .ref (g 8), .int (Pg_nameCount pr), .int (Pg_size pr), .int (Pg_lines pr)]), ((g 1), aI K 64 (Pg_code pr)), ((g 2), aI K 64 (Pg_first pr)), ((g 3), aI K 64 (Pg_second pr)), ((g 4), aI K 64 (Pg_third pr)), ((g 5), aI K 8 (Pg_rules pr)), ((g 6), aI K 32 (Pg_data pr)), ((g 7), aI K 140 (Pg_names pr)), ((g 8), aI K 140 (Pg_namedPlaces pr))]) (wc := [((q 0), ob 5 [.ref (q 1), .int (Rd_filled v), .int (Rd_fault v), .int (Rd_faultPlace v), .ref (q 2), .ref (q 3), .ref (q 4), .ref (q 5), .int (Rd_limit v), .int (Rd_position v), .int (Rd_token v), .int (Rd_value v), .int (Rd_place v), .int (Rd_toldRules v), .int (Rd_toldData v)]), ((q 1), aB K 700 (Rd_tape v)), ((q 2), aI K 25 (Rd_words v)), ((q 3), aI K 75 (Rd_sorts v)), ((q 4), aI K 3 (Rd_parts v)), ((q 5), aI K 64 (Rd_wantedPlaces v))]) (nn := 6) cx [.int (2 : Int32), .int (Rd_place v)] [] (m_Rd_fail l D K q v (2 : Int32) (Rd_place v) hc37) rfl yv_X6_fail wd_649 ⟨rfl, rfl⟩ (by decide) (fr_s (j := 0) rfl rfl rfl (fr_s (j := 1) rfl rfl rfl (fr_s (j := 2) rfl rfl rfl (fr_s (j := 3) rfl rfl rfl (fr_s (j := 4) rfl rfl rfl (fr_s (j := 5) rfl rfl rfl (fr_k (fr_k (fr_k (fr_k (fr_k (fr_k (fr_k (fr_k (fr_k (fr_n)))))))))))))))) rfl (by decide) 0 rfl rfl rfl (Nat.le_of_ble_eq_true rfl) dX6_readPart_70 ?_
            refine r_goto (pc := 73) (tgt := 153) cx dX6_readPart_73 (by decide) ?_
            have hi := inj1 hf
            exact r_vret (pc := 153) cx (by rw [← hi]; rfl) dX6_readPart_153
      · replace hf := ifn h5 hf
        refine r_aload_n (pc := 29) cx dX6_readPart_29 0 rfl ?_
        refine r_iconst (pc := 30) cx dX6_readPart_30 ic_1 ?_
        refine r_aload_n (pc := 31) cx dX6_readPart_31 0 rfl ?_
        refine r_get (pc := 32) cx cf_X6 0 12 rfl (by decide) rfl wd_264 dX6_readPart_32 ?_
        replace hf := bd_of hf
        obtain ⟨v38, hc39, hf⟩ := hf
        refine r_Vv (pc := 35) (ws' := [((q 0), ob 5 [.ref (q 1), .int (Rd_filled v38), .int (Rd_fault v38), .int (Rd_faultPlace v38), .ref (q 2), .ref (q 3), .ref (q 4), .ref (q 5), .int (Rd_limit v38), .int (Rd_position v38), .int (Rd_token v38), .int (Rd_value v38), .int (Rd_place v38), .int (Rd_toldRules v38), .int (Rd_toldData v38)]), ((q 1), aB K 700 (Rd_tape v38)), ((q 2), aI K 25 (Rd_words v38)), ((q 3), aI K 75 (Rd_sorts v38)), ((q 4), aI K 3 (Rd_parts v38)), ((q 5), aI K 64 (Rd_wantedPlaces v38)), ((g 0), ob 3 [.ref (g 1), .ref (g 2), .ref (g 3), .ref (g 4), .ref (g 5), .ref (g 6), .ref (g 7), .ref (g 8), .int (Pg_nameCount pr), .int (Pg_size pr), .int (Pg_lines pr)]), ((g 1), aI K 64 (Pg_code pr)), ((g 2), aI K 64 (Pg_first pr)), ((g 3), aI K 64 (Pg_second pr)), ((g 4), aI K 64 (Pg_third pr)), ((g 5), aI K 8 (Pg_rules pr)), ((g 6), aI K 32 (Pg_data pr)), ((g 7), aI K 140 (Pg_names pr)), ((g 8), aI K 140 (Pg_namedPlaces pr))]) (wc := [((q 0), ob 5 [.ref (q 1), .int (Rd_filled v), .int (Rd_fault v), .int (Rd_faultPlace v), .ref (q 2), .ref (q 3), .ref (q 4), .ref (q 5), .int (Rd_limit v), .int (Rd_position v), .int (Rd_token v), .int (Rd_value v), .int (Rd_place v), .int (Rd_toldRules v), .int (Rd_toldData v)]), ((q 1), aB K 700 (Rd_tape v)), ((q 2), aI K 25 (Rd_words v)), ((q 3), aI K 75 (Rd_sorts v)), ((q 4), aI K 3 (Rd_parts v)), ((q 5), aI K 64 (Rd_wantedPlaces v))]) (nn := 6) cx [.int (1 : Int32), .int (Rd_place v)] [] (m_Rd_fail l D K q v (1 : Int32) (Rd_place v) hc39) rfl yv_X6_fail wd_649 ⟨rfl, rfl⟩ (by decide) (fr_s (j := 0) rfl rfl rfl (fr_s (j := 1) rfl rfl rfl (fr_s (j := 2) rfl rfl rfl (fr_s (j := 3) rfl rfl rfl (fr_s (j := 4) rfl rfl rfl (fr_s (j := 5) rfl rfl rfl (fr_k (fr_k (fr_k (fr_k (fr_k (fr_k (fr_k (fr_k (fr_k (fr_n)))))))))))))))) rfl (by decide) 0 rfl rfl rfl (Nat.le_of_ble_eq_true rfl) dX6_readPart_35 ?_
        refine r_goto (pc := 38) (tgt := 153) cx dX6_readPart_38 (by decide) ?_
        have hi := inj1 hf
        exact r_vret (pc := 153) cx (by rw [← hi]; rfl) dX6_readPart_153
    · replace hf := ifp h4 hf
      refine r_aload_n (pc := 12) cx dX6_readPart_12 0 rfl ?_
      refine r_aload_n (pc := 13) cx dX6_readPart_13 1 rfl ?_
      refine r_iload_n (pc := 14) cx dX6_readPart_14 2 rfl ?_
      replace hf := bd_of hf
      obtain ⟨v40, hc41, hf⟩ := hf
      refine r_Vv (pc := 15) (ws' := [((q 0), ob 5 [.ref (q 1), .int (Rd_filled v40), .int (Rd_fault v40), .int (Rd_faultPlace v40), .ref (q 2), .ref (q 3), .ref (q 4), .ref (q 5), .int (Rd_limit v40), .int (Rd_position v40), .int (Rd_token v40), .int (Rd_value v40), .int (Rd_place v40), .int (Rd_toldRules v40), .int (Rd_toldData v40)]), ((q 1), aB K 700 (Rd_tape v40)), ((q 2), aI K 25 (Rd_words v40)), ((q 3), aI K 75 (Rd_sorts v40)), ((q 4), aI K 3 (Rd_parts v40)), ((q 5), aI K 64 (Rd_wantedPlaces v40)), ((g 0), ob 3 [.ref (g 1), .ref (g 2), .ref (g 3), .ref (g 4), .ref (g 5), .ref (g 6), .ref (g 7), .ref (g 8), .int (Pg_nameCount pr), .int (Pg_size pr), .int (Pg_lines pr)]), ((g 1), aI K 64 (Pg_code pr)), ((g 2), aI K 64 (Pg_first pr)), ((g 3), aI K 64 (Pg_second pr)), ((g 4), aI K 64 (Pg_third pr)), ((g 5), aI K 8 (Pg_rules pr)), ((g 6), aI K 32 (Pg_data pr)), ((g 7), aI K 140 (Pg_names pr)), ((g 8), aI K 140 (Pg_namedPlaces pr))]) (wc := [((q 0), ob 5 [.ref (q 1), .int (Rd_filled v), .int (Rd_fault v), .int (Rd_faultPlace v), .ref (q 2), .ref (q 3), .ref (q 4), .ref (q 5), .int (Rd_limit v), .int (Rd_position v), .int (Rd_token v), .int (Rd_value v), .int (Rd_place v), .int (Rd_toldRules v), .int (Rd_toldData v)]), ((q 1), aB K 700 (Rd_tape v)), ((q 2), aI K 25 (Rd_words v)), ((q 3), aI K 75 (Rd_sorts v)), ((q 4), aI K 3 (Rd_parts v)), ((q 5), aI K 64 (Rd_wantedPlaces v)), ((g 0), ob 3 [.ref (g 1), .ref (g 2), .ref (g 3), .ref (g 4), .ref (g 5), .ref (g 6), .ref (g 7), .ref (g 8), .int (Pg_nameCount pr), .int (Pg_size pr), .int (Pg_lines pr)]), ((g 1), aI K 64 (Pg_code pr)), ((g 2), aI K 64 (Pg_first pr)), ((g 3), aI K 64 (Pg_second pr)), ((g 4), aI K 64 (Pg_third pr)), ((g 5), aI K 8 (Pg_rules pr)), ((g 6), aI K 32 (Pg_data pr)), ((g 7), aI K 140 (Pg_names pr)), ((g 8), aI K 140 (Pg_namedPlaces pr))]) (nn := 15) cx [.ref (g 0), .int a2] [] (m_Rd_readName l D K q v g pr a2 hc41) rfl yv_X6_readName wd_661 ⟨rfl, rfl⟩ (by decide) (fr_s (j := 0) rfl rfl rfl (fr_s (j := 1) rfl rfl rfl (fr_s (j := 2) rfl rfl rfl (fr_s (j := 3) rfl rfl rfl (fr_s (j := 4) rfl rfl rfl (fr_s (j := 5) rfl rfl rfl (fr_s (j := 6) rfl rfl rfl (fr_s (j := 7) rfl rfl rfl (fr_s (j := 8) rfl rfl rfl (fr_s (j := 9) rfl rfl rfl (fr_s (j := 10) rfl rfl rfl (fr_s (j := 11) rfl rfl rfl (fr_s (j := 12) rfl rfl rfl (fr_s (j := 13) rfl rfl rfl (fr_s (j := 14) rfl rfl rfl (fr_n)))))))))))))))) rfl (by decide) 0 rfl rfl rfl (Nat.le_of_ble_eq_true rfl) dX6_readPart_15 ?_
      refine r_goto (pc := 18) (tgt := 153) cx dX6_readPart_18 (by decide) ?_
      have hi := inj1 hf
      exact r_vret (pc := 153) cx (by rw [← hi]; rfl) dX6_readPart_153
theorem yv_X6_readPart : YV yX6_readPart cX6_readPart 4 (none) 3 := ⟨⟨by decide +kernel, by decide +kernel, by decide +kernel⟩, wd_660, wd_90, wd_659, wd_9⟩
