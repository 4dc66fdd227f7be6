abbrev rm_Rd_letterBits : Room := { frames := 0, cells := 0, slots := 0, locals := 0 }
set_option maxRecDepth 100000 in
set_option maxHeartbeats 4000000 in
theorem m_Rd_letterBits (l : Launch) (D : va_G) (K : Nat → ClassId) (a0 : Int32) (a1 : Int32) {r_ : Int32} (hf : f_Rd_letterBits a0 a1 = some r_) : MI l yX6_letterBits cX6_letterBits 2 (some .int) rm_Rd_letterBits D K [.int a0, .int a1] ([]) r_ ([]) := by
  refine MI_of (loc0 := [(0, .int a0), (1, .int a1)]) (by decide +kernel) rfl (Nat.le_of_ble_eq_true rfl) ?_
  intro p e s m args below meth c A cx
  unfold f_Rd_letterBits at hf
  refine r_ws (ws' := []) rfl ?_
  refine r_iload_n (pc := 0) cx dX6_letterBits_0 0 rfl ?_
  refine r_bipush (pc := 1) cx dX6_letterBits_1 bp_97 ?_
  refine r_icmp_lt (pc := 3) (tgt := 28) cx dX6_letterBits_3 (by decide) (fun h1 => ?_) (fun h1 => ?_)
  · replace hf := ifp h1 hf
    refine r_iconst (pc := 28) cx dX6_letterBits_28 ic_0 ?_
    have hi := inj1 hf
    exact r_iret (pc := 29) cx hi rfl dX6_letterBits_29
  · replace hf := ifn h1 hf
    refine r_iload_n (pc := 6) cx dX6_letterBits_6 0 rfl ?_
    refine r_bipush (pc := 7) cx dX6_letterBits_7 bp_122 ?_
    refine r_icmp_gt (pc := 9) (tgt := 28) cx dX6_letterBits_9 (by decide) (fun h2 => ?_) (fun h2 => ?_)
    · replace hf := ifp h2 hf
      refine r_iconst (pc := 28) cx dX6_letterBits_28 ic_0 ?_
      have hi := inj1 hf
      exact r_iret (pc := 29) cx hi rfl dX6_letterBits_29
    · replace hf := ifn h2 hf
      refine r_iload_n (pc := 12) cx dX6_letterBits_12 0 rfl ?_
      refine r_bipush (pc := 13) cx dX6_letterBits_13 bp_97 ?_
      refine r_isub (pc := 15) cx dX6_letterBits_15 ?_
      refine r_iconst (pc := 16) cx dX6_letterBits_16 ic_1 ?_
      refine r_iadd (pc := 17) cx dX6_letterBits_17 ?_
      refine r_bipush (pc := 18) cx dX6_letterBits_18 bp_25 ?_
      refine r_iconst (pc := 20) cx dX6_letterBits_20 ic_5 ?_
      refine r_iload_n (pc := 21) cx dX6_letterBits_21 1 rfl ?_
      refine r_imul (pc := 22) cx dX6_letterBits_22 ?_
      refine r_isub (pc := 23) cx dX6_letterBits_23 ?_
      refine r_ishl (pc := 24) cx dX6_letterBits_24 ?_
      refine r_goto (pc := 25) (tgt := 29) cx dX6_letterBits_25 (by decide) ?_
      have hi := inj1 hf
      exact r_iret (pc := 29) cx hi rfl dX6_letterBits_29
theorem ys_X6_letterBits : YS yX6_letterBits cX6_letterBits 2 (some .int) 2 := ⟨⟨by decide +kernel, by decide +kernel, by decide +kernel⟩, wd_246, wd_90, wd_245⟩
abbrev rm_Rd_enter : Room := { frames := 4, cells := 0, slots := 0, locals := 151 }
set_option maxRecDepth 100000 in
set_option maxHeartbeats 4000000 in
theorem m_Rd_enter (l : Launch) (D : va_G) (K : Nat → ClassId) (si : Nat) (hsi : si < 4) (q : Nat → Nat) (v : T_Rd) (a2 : Int32) {o_v : T_Rd} (hf : f_Rd_enter si v a2 = some o_v) : MV l yX6_enter cX6_enter 7 (none) rm_Rd_enter D K [.ref (q 0), .ref (K (10 + si)), .int a2] (cl_Rd K q v) (cl_Rd K q o_v) := by
  refine MV_of (loc0 := [(0, .ref (q 0)), (1, .ref (K (10 + si))), (2, .int a2)]) (by decide +kernel) rfl (Nat.le_of_ble_eq_true rfl) ?_
  intro p e s m args below meth c A cx
  unfold f_Rd_enter at hf
  refine r_ws (ws' := [((q 0), ob 5 [.ref (q 1), .int (Rd_filled v), .int (Rd_fault v), .int (Rd_faultPlace v), .ref (q 2), .ref (q 3), .ref (q 4), .ref (q 5), .int (Rd_limit v), .int (Rd_position v), .int (Rd_token v), .int (Rd_value v), .int (Rd_place v), .int (Rd_toldRules v), .int (Rd_toldData v)]), ((q 1), aB K 700 (Rd_tape v)), ((q 2), aI K 25 (Rd_words v)), ((q 3), aI K 75 (Rd_sorts v)), ((q 4), aI K 3 (Rd_parts v)), ((q 5), aI K 64 (Rd_wantedPlaces v))]) rfl ?_
  refine r_iconst (pc := 0) cx dX6_enter_0 ic_0 ?_
  refine r_istore_n (pc := 1) (loc' := [(3, .int (0 : Int32)), (0, .ref (q 0)), (1, .ref (K (10 + si))), (2, .int a2)]) cx dX6_enter_1 rfl (by decide) rfl ?_
  have hL2 : ∀ (k2_106 : (Nat → Int32) → (Nat → Int32) → Option (T_Rd)), (∀ (f4 : (Nat → Int32)) (f5 : (Nat → Int32)), k2_106 f4 f5 = some o_v → WW p l e rm_Rd_enter s m args below meth c D A 7 0 0 (MQ below (QV D K A (cl_Rd K q o_v)) args s 0 0 A) ([((q 0), ob 5 [.ref (q 1), .int (Rd_filled v), .int (Rd_fault v), .int (Rd_faultPlace v), .ref (q 2), .ref (q 3), .ref (q 4), .ref (q 5), .int (Rd_limit v), .int (Rd_position v), .int (Rd_token v), .int (Rd_value v), .int (Rd_place v), .int (Rd_toldRules v), .int (Rd_toldData v)]), ((q 1), aB K 700 (Rd_tape v)), ((q 2), aI K 25 f5), ((q 3), aI K 75 f4), ((q 4), aI K 3 (Rd_parts v)), ((q 5), aI K 64 (Rd_wantedPlaces v))]) ([]) ([]) 106) → ∀ (n2 : Nat) (x1 : Int32) (f2 : (Nat → Int32)) (f3 : (Nat → Int32)), f_Rd_enter_L2 si a2 k2_106 n2 x1 f2 f3 = some o_v → WW p l e rm_Rd_enter s m args below meth c D A 7 0 0 (MQ below (QV D K A (cl_Rd K q o_v)) args s 0 0 A) ([((q 0), ob 5 [.ref (q 1), .int (Rd_filled v), .int (Rd_fault v), .int (Rd_faultPlace v), .ref (q 2), .ref (q 3), .ref (q 4), .ref (q 5), .int (Rd_limit v), .int (Rd_position v), .int (Rd_token v), .int (Rd_value v), .int (Rd_place v), .int (Rd_toldRules v), .int (Rd_toldData v)]), ((q 1), aB K 700 (Rd_tape v)), ((q 2), aI K 25 f3), ((q 3), aI K 75 f2), ((q 4), aI K 3 (Rd_parts v)), ((q 5), aI K 64 (Rd_wantedPlaces v))]) ([(0, .ref (q 0)), (1, .ref (K (10 + si))), (2, .int a2), (3, .int x1)]) ([]) 2 := by
    clear hf
    intro k2_106 hk2_106 n2
    induction n2 with
    | zero => intro x1 f2 f3 hf; exact (nomatch (show (none : Option (T_Rd)) = some _ from hf))
    | succ n2 ih2 =>
      intro x1 f2 f3 hf
      rw [f_Rd_enter_L2] at hf
      refine r_iload_n (pc := 2) cx dX6_enter_2 3 rfl ?_
      refine r_aload_n (pc := 3) cx dX6_enter_3 1 rfl ?_
      refine r_strV (pc := 4) cx si hsi [] [.int x1] (s_length l D K si hsi) rfl yv_J0_length_8abf5 wd_196 ⟨rfl, rfl⟩ (by decide) rfl (Nat.le_of_ble_eq_true rfl) dX6_enter_4 ?_
      refine r_icmp_ge (pc := 7) (tgt := 106) cx dX6_enter_7 (by decide) (fun h6 => ?_) (fun h6 => ?_)
      · replace hf := ifp h6 hf
        refine r_loc (loc' := []) [] rfl ?_
        exact hk2_106 _ _ hf
      · replace hf := ifn h6 hf
        refine r_iload_n (pc := 10) cx dX6_enter_10 2 rfl ?_
        refine r_iload_n (pc := 11) cx dX6_enter_11 3 rfl ?_
        refine r_bipush (pc := 12) cx dX6_enter_12 bp_9 ?_
        refine r_idiv (pc := 14) cx dX6_enter_14 (by decide) ?_
        refine r_iadd (pc := 15) cx dX6_enter_15 ?_
        replace hf := nm_of hf
        obtain ⟨x7, ex7, hf⟩ := hf
        refine r_nm ex7 ?_
        refine r_istore (pc := 16) (loc' := [(4, .int x7), (0, .ref (q 0)), (1, .ref (K (10 + si))), (2, .int a2), (3, .int x1)]) cx dX6_enter_16 (by decide) rfl ?_
        refine r_iload_n (pc := 18) cx dX6_enter_18 4 rfl ?_
        refine r_bipush (pc := 19) cx dX6_enter_19 bp_9 ?_
        refine r_irem (pc := 21) cx dX6_enter_21 (by decide) ?_
        replace hf := nm_of hf
        obtain ⟨x8, ex8, hf⟩ := hf
        refine r_nm ex8 ?_
        refine r_istore (pc := 22) (loc' := [(5, .int x8), (4, .int x7), (0, .ref (q 0)), (1, .ref (K (10 + si))), (2, .int a2), (3, .int x1)]) cx dX6_enter_22 (by decide) rfl ?_
        refine r_iload (pc := 24) cx dX6_enter_24 1 rfl ?_
        refine r_iconst (pc := 26) cx dX6_enter_26 ic_3 ?_
        refine r_imul (pc := 27) cx dX6_enter_27 ?_
        refine r_iload (pc := 28) cx dX6_enter_28 0 rfl ?_
        refine r_iadd (pc := 30) cx dX6_enter_30 ?_
        refine r_bipush (pc := 31) cx dX6_enter_31 bp_6 ?_
        refine r_isub (pc := 33) cx dX6_enter_33 ?_
        replace hf := nm_of hf
        obtain ⟨x9, ex9, hf⟩ := hf
        refine r_nm ex9 ?_
        refine r_istore (pc := 34) (loc' := [(6, .int x9), (5, .int x8), (4, .int x7), (0, .ref (q 0)), (1, .ref (K (10 + si))), (2, .int a2), (3, .int x1)]) cx dX6_enter_34 (by decide) rfl ?_
        refine r_iload (pc := 36) cx dX6_enter_36 1 rfl ?_
        refine r_bipush (pc := 38) cx dX6_enter_38 bp_6 ?_
        refine r_icmp_ge (pc := 40) (tgt := 73) cx dX6_enter_40 (by decide) (fun h10 => ?_) (fun h10 => ?_)
        · replace hf := ifp h10 hf
          refine r_iload (pc := 73) cx dX6_enter_73 0 rfl ?_
          refine r_if_lt (pc := 75) (tgt := 100) cx dX6_enter_75 (by decide) (fun h11 => ?_) (fun h11 => ?_)
          · replace hf := ifp h11 hf
            replace hf := nm_of hf
            obtain ⟨x12, ex12, hf⟩ := hf
            refine r_iinc (pc := 100) (loc' := [(3, .int x12), (6, .int x9), (5, .int x8), (4, .int x7), (0, .ref (q 0)), (1, .ref (K (10 + si))), (2, .int a2)]) (v := x12) cx dX6_enter_100 6 rfl ((congrArg (fun z => x1 + z) ic_1).trans ex12.symm) (by decide) rfl ?_
            refine r_goto (pc := 103) (tgt := 2) cx dX6_enter_103 (by decide) ?_
            refine r_loc (loc' := [(0, .ref (q 0)), (1, .ref (K (10 + si))), (2, .int a2), (3, .int x12)]) [4, 5, 6, 0] rfl ?_
            exact ih2 _ _ _ hf
          · replace hf := ifn h11 hf
            refine r_iload (pc := 78) cx dX6_enter_78 0 rfl ?_
            refine r_aload_n (pc := 80) cx dX6_enter_80 3 rfl ?_
            refine r_get (pc := 81) cx cf_X6 0 5 rfl (by decide) rfl wd_257 dX6_enter_81 ?_
            refine r_alen (pc := 84) (v := (75 : Int32)) cx 3 rfl (by decide) dX6_enter_84 ?_
            refine r_icmp_ge (pc := 85) (tgt := 100) cx dX6_enter_85 (by decide) (fun h13 => ?_) (fun h13 => ?_)
            · replace hf := ifp h13 hf
              replace hf := nm_of hf
              obtain ⟨x14, ex14, hf⟩ := hf
              refine r_iinc (pc := 100) (loc' := [(3, .int x14), (6, .int x9), (5, .int x8), (4, .int x7), (0, .ref (q 0)), (1, .ref (K (10 + si))), (2, .int a2)]) (v := x14) cx dX6_enter_100 6 rfl ((congrArg (fun z => x1 + z) ic_1).trans ex14.symm) (by decide) rfl ?_
              refine r_goto (pc := 103) (tgt := 2) cx dX6_enter_103 (by decide) ?_
              refine r_loc (loc' := [(0, .ref (q 0)), (1, .ref (K (10 + si))), (2, .int a2), (3, .int x14)]) [4, 5, 6, 0] rfl ?_
              exact ih2 _ _ _ hf
            · replace hf := ifn h13 hf
              refine r_aload_n (pc := 88) cx dX6_enter_88 3 rfl ?_
              refine r_get (pc := 89) cx cf_X6 0 5 rfl (by decide) rfl wd_257 dX6_enter_89 ?_
              refine r_iload (pc := 92) cx dX6_enter_92 0 rfl ?_
              refine r_aload_n (pc := 94) cx dX6_enter_94 4 rfl ?_
              refine r_iload_n (pc := 95) cx dX6_enter_95 6 rfl ?_
              replace hf := chk_of hf
              obtain ⟨h15, hf⟩ := hf
              refine r_strV (pc := 96) cx si hsi [.int x1] [.int x9, .ref (q 3)] (s_charAt l D K si x1 hsi h15) rfl yv_J0_charAt_5068e wd_206 ⟨rfl, rfl⟩ (by decide) rfl (Nat.le_of_ble_eq_true rfl) dX6_enter_96 ?_
              replace hf := nm_of hf
              obtain ⟨x16, ex16, hf⟩ := hf
              refine r_nm ex16 ?_
              replace hf := chk_of hf
              obtain ⟨h17, hf⟩ := hf
              replace hf := nm_of hf
              obtain ⟨f18, ef18, hf⟩ := hf
              refine r_iast (pc := 99) (ws' := [((q 0), ob 5 [.ref (q 1), .int (Rd_filled v), .int (Rd_fault v), .int (Rd_faultPlace v), .ref (q 2), .ref (q 3), .ref (q 4), .ref (q 5), .int (Rd_limit v), .int (Rd_position v), .int (Rd_token v), .int (Rd_value v), .int (Rd_place v), .int (Rd_toldRules v), .int (Rd_toldData v)]), ((q 1), aB K 700 (Rd_tape v)), ((q 2), aI K 25 f3), ((q 3), aI K 75 f18), ((q 4), aI K 3 (Rd_parts v)), ((q 5), aI K 64 (Rd_wantedPlaces v))]) cx 3 rfl h17 dX6_enter_99 ef18 rfl ?_
              replace hf := nm_of hf
              obtain ⟨x19, ex19, hf⟩ := hf
              refine r_iinc (pc := 100) (loc' := [(3, .int x19), (6, .int x9), (5, .int x8), (4, .int x7), (0, .ref (q 0)), (1, .ref (K (10 + si))), (2, .int a2)]) (v := x19) cx dX6_enter_100 6 rfl ((congrArg (fun z => x1 + z) ic_1).trans ex19.symm) (by decide) rfl ?_
              refine r_goto (pc := 103) (tgt := 2) cx dX6_enter_103 (by decide) ?_
              refine r_loc (loc' := [(0, .ref (q 0)), (1, .ref (K (10 + si))), (2, .int a2), (3, .int x19)]) [4, 5, 6, 0] rfl ?_
              exact ih2 _ _ _ hf
        · replace hf := ifn h10 hf
          refine r_iload (pc := 43) cx dX6_enter_43 2 rfl ?_
          refine r_bipush (pc := 45) cx dX6_enter_45 bp_25 ?_
          refine r_icmp_ge (pc := 47) (tgt := 73) cx dX6_enter_47 (by decide) (fun h20 => ?_) (fun h20 => ?_)
          · replace hf := ifp h20 hf
            refine r_iload (pc := 73) cx dX6_enter_73 0 rfl ?_
            refine r_if_lt (pc := 75) (tgt := 100) cx dX6_enter_75 (by decide) (fun h21 => ?_) (fun h21 => ?_)
            · replace hf := ifp h21 hf
              replace hf := nm_of hf
              obtain ⟨x22, ex22, hf⟩ := hf
              refine r_iinc (pc := 100) (loc' := [(3, .int x22), (6, .int x9), (5, .int x8), (4, .int x7), (0, .ref (q 0)), (1, .ref (K (10 + si))), (2, .int a2)]) (v := x22) cx dX6_enter_100 6 rfl ((congrArg (fun z => x1 + z) ic_1).trans ex22.symm) (by decide) rfl ?_
              refine r_goto (pc := 103) (tgt := 2) cx dX6_enter_103 (by decide) ?_
              refine r_loc (loc' := [(0, .ref (q 0)), (1, .ref (K (10 + si))), (2, .int a2), (3, .int x22)]) [4, 5, 6, 0] rfl ?_
              exact ih2 _ _ _ hf
            · replace hf := ifn h21 hf
              refine r_iload (pc := 78) cx dX6_enter_78 0 rfl ?_
              refine r_aload_n (pc := 80) cx dX6_enter_80 3 rfl ?_
              refine r_get (pc := 81) cx cf_X6 0 5 rfl (by decide) rfl wd_257 dX6_enter_81 ?_
              refine r_alen (pc := 84) (v := (75 : Int32)) cx 3 rfl (by decide) dX6_enter_84 ?_
              refine r_icmp_ge (pc := 85) (tgt := 100) cx dX6_enter_85 (by decide) (fun h23 => ?_) (fun h23 => ?_)
              · replace hf := ifp h23 hf
                replace hf := nm_of hf
                obtain ⟨x24, ex24, hf⟩ := hf
                refine r_iinc (pc := 100) (loc' := [(3, .int x24), (6, .int x9), (5, .int x8), (4, .int x7), (0, .ref (q 0)), (1, .ref (K (10 + si))), (2, .int a2)]) (v := x24) cx dX6_enter_100 6 rfl ((congrArg (fun z => x1 + z) ic_1).trans ex24.symm) (by decide) rfl ?_
                refine r_goto (pc := 103) (tgt := 2) cx dX6_enter_103 (by decide) ?_
                refine r_loc (loc' := [(0, .ref (q 0)), (1, .ref (K (10 + si))), (2, .int a2), (3, .int x24)]) [4, 5, 6, 0] rfl ?_
                exact ih2 _ _ _ hf
              · replace hf := ifn h23 hf
                refine r_aload_n (pc := 88) cx dX6_enter_88 3 rfl ?_
                refine r_get (pc := 89) cx cf_X6 0 5 rfl (by decide) rfl wd_257 dX6_enter_89 ?_
                refine r_iload (pc := 92) cx dX6_enter_92 0 rfl ?_
                refine r_aload_n (pc := 94) cx dX6_enter_94 4 rfl ?_
                refine r_iload_n (pc := 95) cx dX6_enter_95 6 rfl ?_
                replace hf := chk_of hf
                obtain ⟨h25, hf⟩ := hf
                refine r_strV (pc := 96) cx si hsi [.int x1] [.int x9, .ref (q 3)] (s_charAt l D K si x1 hsi h25) rfl yv_J0_charAt_5068e wd_206 ⟨rfl, rfl⟩ (by decide) rfl (Nat.le_of_ble_eq_true rfl) dX6_enter_96 ?_
                replace hf := nm_of hf
                obtain ⟨x26, ex26, hf⟩ := hf
                refine r_nm ex26 ?_
                replace hf := chk_of hf
                obtain ⟨h27, hf⟩ := hf
                replace hf := nm_of hf
                obtain ⟨f28, ef28, hf⟩ := hf
                refine r_iast (pc := 99) (ws' := [((q 0), ob 5 [.ref (q 1), .int (Rd_filled v), .int (Rd_fault v), .int (Rd_faultPlace v), .ref (q 2), .ref (q 3), .ref (q 4), .ref (q 5), .int (Rd_limit v), .int (Rd_position v), .int (Rd_token v), .int (Rd_value v), .int (Rd_place v), .int (Rd_toldRules v), .int (Rd_toldData v)]), ((q 1), aB K 700 (Rd_tape v)), ((q 2), aI K 25 f3), ((q 3), aI K 75 f28), ((q 4), aI K 3 (Rd_parts v)), ((q 5), aI K 64 (Rd_wantedPlaces v))]) cx 3 rfl h27 dX6_enter_99 ef28 rfl ?_
                replace hf := nm_of hf
                obtain ⟨x29, ex29, hf⟩ := hf
                refine r_iinc (pc := 100) (loc' := [(3, .int x29), (6, .int x9), (5, .int x8), (4, .int x7), (0, .ref (q 0)), (1, .ref (K (10 + si))), (2, .int a2)]) (v := x29) cx dX6_enter_100 6 rfl ((congrArg (fun z => x1 + z) ic_1).trans ex29.symm) (by decide) rfl ?_
                refine r_goto (pc := 103) (tgt := 2) cx dX6_enter_103 (by decide) ?_
                refine r_loc (loc' := [(0, .ref (q 0)), (1, .ref (K (10 + si))), (2, .int a2), (3, .int x29)]) [4, 5, 6, 0] rfl ?_
                exact ih2 _ _ _ hf
          · replace hf := ifn h20 hf
            refine r_aload_n (pc := 50) cx dX6_enter_50 3 rfl ?_
            refine r_get (pc := 51) cx cf_X6 0 4 rfl (by decide) rfl wd_256 dX6_enter_51 ?_
            refine r_iload (pc := 54) cx dX6_enter_54 2 rfl ?_
            refine r_dup2 (pc := 56) cx dX6_enter_56 rfl rfl ?_
            replace hf := chk_of hf
            obtain ⟨h30, hf⟩ := hf
            refine r_iald (pc := 57) cx 2 rfl h30 dX6_enter_57 ?_
            refine r_aload_n (pc := 58) cx dX6_enter_58 4 rfl ?_
            refine r_iload_n (pc := 59) cx dX6_enter_59 6 rfl ?_
            replace hf := chk_of hf
            obtain ⟨h31, hf⟩ := hf
            refine r_strV (pc := 60) cx si hsi [.int x1] [.int (f3 x7.toNatClampNeg), .int x7, .ref (q 2)] (s_charAt l D K si x1 hsi h31) rfl yv_J0_charAt_5068e wd_206 ⟨rfl, rfl⟩ (by decide) rfl (Nat.le_of_ble_eq_true rfl) dX6_enter_60 ?_
            refine r_iload (pc := 63) cx dX6_enter_63 1 rfl ?_
            replace hf := bd_of hf
            obtain ⟨r32, hc33, hf⟩ := hf
            refine r_Si (pc := 65) (ws' := [((q 0), ob 5 [.ref (q 1), .int (Rd_filled v), .int (Rd_fault v), .int (Rd_faultPlace v), .ref (q 2), .ref (q 3), .ref (q 4), .ref (q 5), .int (Rd_limit v), .int (Rd_position v), .int (Rd_token v), .int (Rd_value v), .int (Rd_place v), .int (Rd_toldRules v), .int (Rd_toldData v)]), ((q 1), aB K 700 (Rd_tape v)), ((q 2), aI K 25 f3), ((q 3), aI K 75 f2), ((q 4), aI K 3 (Rd_parts v)), ((q 5), aI K 64 (Rd_wantedPlaces v))]) (wc := []) (nn := 0) cx [.int (sch si x1), .int x8] [.int (f3 x7.toNatClampNeg), .int x7, .ref (q 2)] (m_Rd_letterBits l D K (sch si x1) x8 hc33) rfl ys_X6_letterBits wd_244 ⟨rfl, rfl⟩ (by decide) (fr_k (fr_k (fr_k (fr_k (fr_k (fr_k (fr_n))))))) rfl (by decide) rfl (Nat.le_of_ble_eq_true rfl) dX6_enter_65 ?_
            refine r_ior (pc := 68) cx dX6_enter_68 ?_
            replace hf := nm_of hf
            obtain ⟨x34, ex34, hf⟩ := hf
            refine r_nm ex34 ?_
            replace hf := chk_of hf
            obtain ⟨h35, hf⟩ := hf
            replace hf := nm_of hf
            obtain ⟨f36, ef36, hf⟩ := hf
            refine r_iast (pc := 69) (ws' := [((q 0), ob 5 [.ref (q 1), .int (Rd_filled v), .int (Rd_fault v), .int (Rd_faultPlace v), .ref (q 2), .ref (q 3), .ref (q 4), .ref (q 5), .int (Rd_limit v), .int (Rd_position v), .int (Rd_token v), .int (Rd_value v), .int (Rd_place v), .int (Rd_toldRules v), .int (Rd_toldData v)]), ((q 1), aB K 700 (Rd_tape v)), ((q 2), aI K 25 f36), ((q 3), aI K 75 f2), ((q 4), aI K 3 (Rd_parts v)), ((q 5), aI K 64 (Rd_wantedPlaces v))]) cx 2 rfl h35 dX6_enter_69 ef36 rfl ?_
            refine r_goto (pc := 70) (tgt := 100) cx dX6_enter_70 (by decide) ?_
            replace hf := nm_of hf
            obtain ⟨x37, ex37, hf⟩ := hf
            refine r_iinc (pc := 100) (loc' := [(3, .int x37), (6, .int x9), (5, .int x8), (4, .int x7), (0, .ref (q 0)), (1, .ref (K (10 + si))), (2, .int a2)]) (v := x37) cx dX6_enter_100 6 rfl ((congrArg (fun z => x1 + z) ic_1).trans ex37.symm) (by decide) rfl ?_
            refine r_goto (pc := 103) (tgt := 2) cx dX6_enter_103 (by decide) ?_
            refine r_loc (loc' := [(0, .ref (q 0)), (1, .ref (K (10 + si))), (2, .int a2), (3, .int x37)]) [4, 5, 6, 0] rfl ?_
            exact ih2 _ _ _ hf
  refine r_loc (loc' := [(0, .ref (q 0)), (1, .ref (K (10 + si))), (2, .int a2), (3, .int (0 : Int32))]) [1, 2, 3, 0] rfl ?_
  refine hL2 _ (fun f4 f5 hf => ?_) _ _ _ _ hf
  have hi := inj1 hf
  exact r_vret (pc := 106) cx (by rw [← hi]; (try simp only [cl_Rd, Rd_tape_mk, Rd_filled_mk, Rd_fault_mk, Rd_faultPlace_mk, Rd_words_mk, Rd_sorts_mk, Rd_parts_mk, Rd_wantedPlaces_mk, Rd_limit_mk, Rd_position_mk, Rd_token_mk, Rd_value_mk, Rd_place_mk, Rd_toldRules_mk, Rd_toldData_mk, List.cons_append, List.nil_append, List.append_nil]) <;> rfl) dX6_enter_106
theorem yv_X6_enter : YV yX6_enter cX6_enter 7 (none) 2 := ⟨⟨by decide +kernel, by decide +kernel, by decide +kernel⟩, wd_195, wd_90, wd_194, wd_0⟩
abbrev rm_Rd_hasRoom : Room := { frames := 0, cells := 0, slots := 0, locals := 0 }
set_option maxRecDepth 100000 in
set_option maxHeartbeats 4000000 in
theorem m_Rd_hasRoom (l : Launch) (D : va_G) (K : Nat → ClassId) (q : Nat → Nat) (v : T_Rd) {r_ : Int32} (hf : f_Rd_hasRoom v = some r_) : MI l yX6_hasRoom cX6_hasRoom 1 (some .boolean) rm_Rd_hasRoom D K [.ref (q 0)] (cl_Rd K q v) r_ (cl_Rd K q v) := by
  refine MI_of (loc0 := [(0, .ref (q 0))]) (by decide +kernel) rfl (Nat.le_of_ble_eq_true rfl) ?_
  intro p e s m args below meth c A cx
  unfold f_Rd_hasRoom at hf
  refine r_ws (ws' := [((q 0), ob 5 [.ref (q 1), .int (Rd_filled v), .int (Rd_fault v), .int (Rd_faultPlace v), .ref (q 2), .ref (q 3), .ref (q 4), .ref (q 5), .int (Rd_limit v), .int (Rd_position v), .int (Rd_token v), .int (Rd_value v), .int (Rd_place v), .int (Rd_toldRules v), .int (Rd_toldData v)]), ((q 1), aB K 700 (Rd_tape v)), ((q 2), aI K 25 (Rd_words v)), ((q 3), aI K 75 (Rd_sorts v)), ((q 4), aI K 3 (Rd_parts v)), ((q 5), aI K 64 (Rd_wantedPlaces v))]) rfl ?_
  refine r_aload_n (pc := 0) cx dX6_hasRoom_0 0 rfl ?_
  refine r_get (pc := 1) cx cf_X6 0 1 rfl (by decide) rfl wd_251 dX6_hasRoom_1 ?_
  refine r_bipush (pc := 4) cx dX6_hasRoom_4 bp_20 ?_
  refine r_iadd (pc := 6) cx dX6_hasRoom_6 ?_
  refine r_sipush (pc := 7) cx dX6_hasRoom_7 sp_700 ?_
  refine r_icmp_gt (pc := 10) (tgt := 17) cx dX6_hasRoom_10 (by decide) (fun h1 => ?_) (fun h1 => ?_)
  · replace hf := ifp h1 hf
    refine r_iconst (pc := 17) cx dX6_hasRoom_17 ic_0 ?_
    have hi := inj1 hf
    exact r_zret (pc := 18) cx (Or.inl rfl) hi rfl dX6_hasRoom_18
  · replace hf := ifn h1 hf
    refine r_iconst (pc := 13) cx dX6_hasRoom_13 ic_1 ?_
    refine r_goto (pc := 14) (tgt := 18) cx dX6_hasRoom_14 (by decide) ?_
    have hi := inj1 hf
    exact r_zret (pc := 18) cx (Or.inr rfl) hi rfl dX6_hasRoom_18
theorem yv_X6_hasRoom : YV yX6_hasRoom cX6_hasRoom 1 (some .boolean) 0 := ⟨⟨by decide +kernel, by decide +kernel, by decide +kernel⟩, wd_607, wd_90, wd_605, wd_606⟩
abbrev rm_Rd_append : Room := { frames := 0, cells := 0, slots := 0, locals := 0 }
set_option maxRecDepth 100000 in
set_option maxHeartbeats 4000000 in
theorem m_Rd_append (l : Launch) (D : va_G) (K : Nat → ClassId) (q : Nat → Nat) (v : T_Rd) (a1 : Int32) {o_v : T_Rd} (hf : f_Rd_append v a1 = some o_v) : MV l yX6_append cX6_append 3 (none) rm_Rd_append D K [.ref (q 0), .int a1] (cl_Rd K q v) (cl_Rd K q o_v) := by
  refine MV_of (loc0 := [(0, .ref (q 0)), (1, .int a1)]) (by decide +kernel) rfl (Nat.le_of_ble_eq_true rfl) ?_
  intro p e s m args below meth c A cx
  unfold f_Rd_append at hf
  refine r_ws (ws' := [((q 0), ob 5 [.ref (q 1), .int (Rd_filled v), .int (Rd_fault v), .int (Rd_faultPlace v), .ref (q 2), .ref (q 3), .ref (q 4), .ref (q 5), .int (Rd_limit v), .int (Rd_position v), .int (Rd_token v), .int (Rd_value v), .int (Rd_place v), .int (Rd_toldRules v), .int (Rd_toldData v)]), ((q 1), aB K 700 (Rd_tape v)), ((q 2), aI K 25 (Rd_words v)), ((q 3), aI K 75 (Rd_sorts v)), ((q 4), aI K 3 (Rd_parts v)), ((q 5), aI K 64 (Rd_wantedPlaces v))]) rfl ?_
  refine r_bipush (pc := 0) cx dX6_append_0 bp_24 ?_
  refine r_istore_n (pc := 2) (loc' := [(2, .int (24 : Int32)), (0, .ref (q 0)), (1, .int a1)]) cx dX6_append_2 rfl (by decide) rfl ?_
  have hL3 : ∀ (k3_53 : Int32 → (Nat → Int32) → Option (T_Rd)), (∀ (x4 : Int32) (f5 : (Nat → Int32)), k3_53 x4 f5 = some o_v → WW p l e rm_Rd_append s m args below meth c D A 3 0 0 (MQ below (QV D K A (cl_Rd K q o_v)) args s 0 0 A) ([((q 0), ob 5 [.ref (q 1), .int x4, .int (Rd_fault v), .int (Rd_faultPlace v), .ref (q 2), .ref (q 3), .ref (q 4), .ref (q 5), .int (Rd_limit v), .int (Rd_position v), .int (Rd_token v), .int (Rd_value v), .int (Rd_place v), .int (Rd_toldRules v), .int (Rd_toldData v)]), ((q 1), aB K 700 f5), ((q 2), aI K 25 (Rd_words v)), ((q 3), aI K 75 (Rd_sorts v)), ((q 4), aI K 3 (Rd_parts v)), ((q 5), aI K 64 (Rd_wantedPlaces v))]) ([]) ([]) 53) → ∀ (n3 : Nat) (x1 : Int32) (x2 : Int32) (f3 : (Nat → Int32)), f_Rd_append_L3 a1 k3_53 n3 x1 x2 f3 = some o_v → WW p l e rm_Rd_append s m args below meth c D A 3 0 0 (MQ below (QV D K A (cl_Rd K q o_v)) args s 0 0 A) ([((q 0), ob 5 [.ref (q 1), .int x2, .int (Rd_fault v), .int (Rd_faultPlace v), .ref (q 2), .ref (q 3), .ref (q 4), .ref (q 5), .int (Rd_limit v), .int (Rd_position v), .int (Rd_token v), .int (Rd_value v), .int (Rd_place v), .int (Rd_toldRules v), .int (Rd_toldData v)]), ((q 1), aB K 700 f3), ((q 2), aI K 25 (Rd_words v)), ((q 3), aI K 75 (Rd_sorts v)), ((q 4), aI K 3 (Rd_parts v)), ((q 5), aI K 64 (Rd_wantedPlaces v))]) ([(0, .ref (q 0)), (1, .int a1), (2, .int x1)]) ([]) 3 := by
    clear hf
    intro k3_53 hk3_53 n3
    induction n3 with
    | zero => intro x1 x2 f3 hf; exact (nomatch (show (none : Option (T_Rd)) = some _ from hf))
    | succ n3 ih3 =>
      intro x1 x2 f3 hf
      rw [f_Rd_append_L3] at hf
      refine r_iload_n (pc := 3) cx dX6_append_3 2 rfl ?_
      refine r_if_lt (pc := 4) (tgt := 53) cx dX6_append_4 (by decide) (fun h6 => ?_) (fun h6 => ?_)
      · replace hf := ifp h6 hf
        refine r_loc (loc' := []) [] rfl ?_
        exact hk3_53 _ _ hf
      · replace hf := ifn h6 hf
        refine r_aload_n (pc := 7) cx dX6_append_7 0 rfl ?_
        refine r_get (pc := 8) cx cf_X6 0 1 rfl (by decide) rfl wd_251 dX6_append_8 ?_
        refine r_if_lt (pc := 11) (tgt := 53) cx dX6_append_11 (by decide) (fun h7 => ?_) (fun h7 => ?_)
        · replace hf := ifp h7 hf
          refine r_loc (loc' := []) [] rfl ?_
          exact hk3_53 _ _ hf
        · replace hf := ifn h7 hf
          refine r_aload_n (pc := 14) cx dX6_append_14 0 rfl ?_
          refine r_get (pc := 15) cx cf_X6 0 1 rfl (by decide) rfl wd_251 dX6_append_15 ?_
          refine r_sipush (pc := 18) cx dX6_append_18 sp_700 ?_
          refine r_icmp_ge (pc := 21) (tgt := 53) cx dX6_append_21 (by decide) (fun h8 => ?_) (fun h8 => ?_)
          · replace hf := ifp h8 hf
            refine r_loc (loc' := []) [] rfl ?_
            exact hk3_53 _ _ hf
          · replace hf := ifn h8 hf
            refine r_aload_n (pc := 24) cx dX6_append_24 0 rfl ?_
            refine r_get (pc := 25) cx cf_X6 0 0 rfl (by decide) rfl wd_249 dX6_append_25 ?_
            refine r_aload_n (pc := 28) cx dX6_append_28 0 rfl ?_
            refine r_get (pc := 29) cx cf_X6 0 1 rfl (by decide) rfl wd_251 dX6_append_29 ?_
            refine r_iload_n (pc := 32) cx dX6_append_32 1 rfl ?_
            refine r_iload_n (pc := 33) cx dX6_append_33 2 rfl ?_
            refine r_ishr (pc := 34) cx dX6_append_34 ?_
            refine r_i2b (pc := 35) cx dX6_append_35 ?_
            replace hf := nm_of hf
            obtain ⟨x9, ex9, hf⟩ := hf
            refine r_nm ex9 ?_
            replace hf := chk_of hf
            obtain ⟨h10, hf⟩ := hf
            replace hf := nm_of hf
            obtain ⟨f11, ef11, hf⟩ := hf
            refine r_bast (pc := 36) (ws' := [((q 0), ob 5 [.ref (q 1), .int x2, .int (Rd_fault v), .int (Rd_faultPlace v), .ref (q 2), .ref (q 3), .ref (q 4), .ref (q 5), .int (Rd_limit v), .int (Rd_position v), .int (Rd_token v), .int (Rd_value v), .int (Rd_place v), .int (Rd_toldRules v), .int (Rd_toldData v)]), ((q 1), aB K 700 f11), ((q 2), aI K 25 (Rd_words v)), ((q 3), aI K 75 (Rd_sorts v)), ((q 4), aI K 3 (Rd_parts v)), ((q 5), aI K 64 (Rd_wantedPlaces v))]) cx 1 rfl h10 dX6_append_36 ef11 rfl ?_
            refine r_aload_n (pc := 37) cx dX6_append_37 0 rfl ?_
            refine r_dup (pc := 38) cx dX6_append_38 rfl ?_
            refine r_get (pc := 39) cx cf_X6 0 1 rfl (by decide) rfl wd_251 dX6_append_39 ?_
            refine r_iconst (pc := 42) cx dX6_append_42 ic_1 ?_
            refine r_iadd (pc := 43) cx dX6_append_43 ?_
            replace hf := nm_of hf
            obtain ⟨x12, ex12, hf⟩ := hf
            refine r_nm ex12 ?_
            refine r_putI (pc := 44) (ws' := [((q 0), ob 5 [.ref (q 1), .int x12, .int (Rd_fault v), .int (Rd_faultPlace v), .ref (q 2), .ref (q 3), .ref (q 4), .ref (q 5), .int (Rd_limit v), .int (Rd_position v), .int (Rd_token v), .int (Rd_value v), .int (Rd_place v), .int (Rd_toldRules v), .int (Rd_toldData v)]), ((q 1), aB K 700 f11), ((q 2), aI K 25 (Rd_words v)), ((q 3), aI K 75 (Rd_sorts v)), ((q 4), aI K 3 (Rd_parts v)), ((q 5), aI K 64 (Rd_wantedPlaces v))]) cx cf_X6 0 1 rfl (by decide) (Nat.le_of_ble_eq_true rfl) rfl pfd_I wd_251 dX6_append_44 rfl ?_
            replace hf := nm_of hf
            obtain ⟨x13, ex13, hf⟩ := hf
            refine r_iinc (pc := 47) (loc' := [(2, .int x13), (0, .ref (q 0)), (1, .int a1)]) (v := x13) cx dX6_append_47 2 rfl ((congrArg (fun z => x1 + z) ic_m8).trans ex13.symm) (by decide) rfl ?_
            refine r_goto (pc := 50) (tgt := 3) cx dX6_append_50 (by decide) ?_
            refine r_loc (loc' := [(0, .ref (q 0)), (1, .int a1), (2, .int x13)]) [1, 2, 0] rfl ?_
            exact ih3 _ _ _ hf
  refine r_loc (loc' := [(0, .ref (q 0)), (1, .int a1), (2, .int (24 : Int32))]) [1, 2, 0] rfl ?_
  refine hL3 _ (fun x4 f5 hf => ?_) _ _ _ _ hf
  have hi := inj1 hf
  exact r_vret (pc := 53) cx (by rw [← hi]; (try simp only [cl_Rd, Rd_tape_mk, Rd_filled_mk, Rd_fault_mk, Rd_faultPlace_mk, Rd_words_mk, Rd_sorts_mk, Rd_parts_mk, Rd_wantedPlaces_mk, Rd_limit_mk, Rd_position_mk, Rd_token_mk, Rd_value_mk, Rd_place_mk, Rd_toldRules_mk, Rd_toldData_mk, List.cons_append, List.nil_append, List.append_nil]) <;> rfl) dX6_append_53
theorem yv_X6_append : YV yX6_append cX6_append 3 (none) 1 := ⟨⟨by decide +kernel, by decide +kernel, by decide +kernel⟩, wd_611, wd_90, wd_609, wd_610⟩
abbrev rm_Rd_signAt : Room := { frames := 0, cells := 0, slots := 0, locals := 0 }
set_option maxRecDepth 100000 in
set_option maxHeartbeats 4000000 in
theorem m_Rd_signAt (l : Launch) (D : va_G) (K : Nat → ClassId) (q : Nat → Nat) (v : T_Rd) (a1 : Int32) {r_ : Int32} (hf : f_Rd_signAt v a1 = some r_) : MI l yX6_signAt cX6_signAt 2 (some .int) rm_Rd_signAt D K [.ref (q 0), .int a1] (cl_Rd K q v) r_ (cl_Rd K q v) := by
  refine MI_of (loc0 := [(0, .ref (q 0)), (1, .int a1)]) (by decide +kernel) rfl (Nat.le_of_ble_eq_true rfl) ?_
  intro p e s m args below meth c A cx
  unfold f_Rd_signAt at hf
  refine r_ws (ws' := [((q 0), ob 5 [.ref (q 1), .int (Rd_filled v), .int (Rd_fault v), .int (Rd_faultPlace v), .ref (q 2), .ref (q 3), .ref (q 4), .ref (q 5), .int (Rd_limit v), .int (Rd_position v), .int (Rd_token v), .int (Rd_value v), .int (Rd_place v), .int (Rd_toldRules v), .int (Rd_toldData v)]), ((q 1), aB K 700 (Rd_tape v)), ((q 2), aI K 25 (Rd_words v)), ((q 3), aI K 75 (Rd_sorts v)), ((q 4), aI K 3 (Rd_parts v)), ((q 5), aI K 64 (Rd_wantedPlaces v))]) rfl ?_
  refine r_iload_n (pc := 0) cx dX6_signAt_0 1 rfl ?_
  refine r_if_lt (pc := 1) (tgt := 32) cx dX6_signAt_1 (by decide) (fun h1 => ?_) (fun h1 => ?_)
  · replace hf := ifp h1 hf
    refine r_iconst (pc := 32) cx dX6_signAt_32 ic_m1 ?_
    have hi := inj1 hf
    exact r_iret (pc := 33) cx hi rfl dX6_signAt_33
  · replace hf := ifn h1 hf
    refine r_iload_n (pc := 4) cx dX6_signAt_4 1 rfl ?_
    refine r_aload_n (pc := 5) cx dX6_signAt_5 0 rfl ?_
    refine r_get (pc := 6) cx cf_X6 0 8 rfl (by decide) rfl wd_260 dX6_signAt_6 ?_
    refine r_icmp_ge (pc := 9) (tgt := 32) cx dX6_signAt_9 (by decide) (fun h2 => ?_) (fun h2 => ?_)
    · replace hf := ifp h2 hf
      refine r_iconst (pc := 32) cx dX6_signAt_32 ic_m1 ?_
      have hi := inj1 hf
      exact r_iret (pc := 33) cx hi rfl dX6_signAt_33
    · replace hf := ifn h2 hf
      refine r_iload_n (pc := 12) cx dX6_signAt_12 1 rfl ?_
      refine r_sipush (pc := 13) cx dX6_signAt_13 sp_700 ?_
      refine r_icmp_ge (pc := 16) (tgt := 32) cx dX6_signAt_16 (by decide) (fun h3 => ?_) (fun h3 => ?_)
      · replace hf := ifp h3 hf
        refine r_iconst (pc := 32) cx dX6_signAt_32 ic_m1 ?_
        have hi := inj1 hf
        exact r_iret (pc := 33) cx hi rfl dX6_signAt_33
      · replace hf := ifn h3 hf
        refine r_aload_n (pc := 19) cx dX6_signAt_19 0 rfl ?_
        refine r_get (pc := 20) cx cf_X6 0 0 rfl (by decide) rfl wd_249 dX6_signAt_20 ?_
        refine r_iload_n (pc := 23) cx dX6_signAt_23 1 rfl ?_
        replace hf := chk_of hf
        obtain ⟨h4, hf⟩ := hf
        refine r_bald (pc := 24) cx 1 rfl h4 dX6_signAt_24 ?_
        refine r_sipush (pc := 25) cx dX6_signAt_25 sp_255 ?_
        refine r_iand (pc := 28) cx dX6_signAt_28 ?_
        refine r_goto (pc := 29) (tgt := 33) cx dX6_signAt_29 (by decide) ?_
        have hi := inj1 hf
        exact r_iret (pc := 33) cx hi rfl dX6_signAt_33
theorem yv_X6_signAt : YV yX6_signAt cX6_signAt 2 (some .int) 1 := ⟨⟨by decide +kernel, by decide +kernel, by decide +kernel⟩, wd_628, wd_90, wd_627, wd_2⟩
abbrev rm_Rd_readWord : Room := { frames := 1, cells := 0, slots := 0, locals := 21 }
set_option maxRecDepth 100000 in
set_option maxHeartbeats 4000000 in
theorem m_Rd_readWord (l : Launch) (D : va_G) (K : Nat → ClassId) (q : Nat → Nat) (v : T_Rd) {o_v : T_Rd} (hf : f_Rd_readWord v = some o_v) : MV l yX6_readWord cX6_readWord 2 (none) rm_Rd_readWord D K [.ref (q 0)] (cl_Rd K q v) (cl_Rd K q o_v) := by
  refine MV_of (loc0 := [(0, .ref (q 0))]) (by decide +kernel) rfl (Nat.le_of_ble_eq_true rfl) ?_
  intro p e s m args below meth c A cx
  unfold f_Rd_readWord at hf
  refine r_ws (ws' := [((q 0), ob 5 [.ref (q 1), .int (Rd_filled v), .int (Rd_fault v), .int (Rd_faultPlace v), .ref (q 2), .ref (q 3), .ref (q 4), .ref (q 5), .int (Rd_limit v), .int (Rd_position v), .int (Rd_token v), .int (Rd_value v), .int (Rd_place v), .int (Rd_toldRules v), .int (Rd_toldData v)]), ((q 1), aB K 700 (Rd_tape v)), ((q 2), aI K 25 (Rd_words v)), ((q 3), aI K 75 (Rd_sorts v)), ((q 4), aI K 3 (Rd_parts v)), ((q 5), aI K 64 (Rd_wantedPlaces v))]) rfl ?_
  refine r_aload_n (pc := 0) cx dX6_readWord_0 0 rfl ?_
  refine r_iconst (pc := 1) cx dX6_readWord_1 ic_1 ?_
  refine r_putI (pc := 2) (ws' := [((q 0), ob 5 [.ref (q 1), .int (Rd_filled v), .int (Rd_fault v), .int (Rd_faultPlace v), .ref (q 2), .ref (q 3), .ref (q 4), .ref (q 5), .int (Rd_limit v), .int (Rd_position v), .int (1 : Int32), .int (Rd_value v), .int (Rd_place v), .int (Rd_toldRules v), .int (Rd_toldData v)]), ((q 1), aB K 700 (Rd_tape v)), ((q 2), aI K 25 (Rd_words v)), ((q 3), aI K 75 (Rd_sorts v)), ((q 4), aI K 3 (Rd_parts v)), ((q 5), aI K 64 (Rd_wantedPlaces v))]) cx cf_X6 0 10 rfl (by decide) (Nat.le_of_ble_eq_true rfl) rfl pfd_I wd_262 dX6_readWord_2 rfl ?_
  refine r_aload_n (pc := 5) cx dX6_readWord_5 0 rfl ?_
  refine r_iconst (pc := 6) cx dX6_readWord_6 ic_0 ?_
  refine r_putI (pc := 7) (ws' := [((q 0), ob 5 [.ref (q 1), .int (Rd_filled v), .int (Rd_fault v), .int (Rd_faultPlace v), .ref (q 2), .ref (q 3), .ref (q 4), .ref (q 5), .int (Rd_limit v), .int (Rd_position v), .int (1 : Int32), .int (0 : Int32), .int (Rd_place v), .int (Rd_toldRules v), .int (Rd_toldData v)]), ((q 1), aB K 700 (Rd_tape v)), ((q 2), aI K 25 (Rd_words v)), ((q 3), aI K 75 (Rd_sorts v)), ((q 4), aI K 3 (Rd_parts v)), ((q 5), aI K 64 (Rd_wantedPlaces v))]) cx cf_X6 0 11 rfl (by decide) (Nat.le_of_ble_eq_true rfl) rfl pfd_I wd_263 dX6_readWord_7 rfl ?_
  refine r_iconst (pc := 10) cx dX6_readWord_10 ic_0 ?_
  refine r_istore_n (pc := 11) (loc' := [(1, .int (0 : Int32)), (0, .ref (q 0))]) cx dX6_readWord_11 rfl (by decide) rfl ?_
  have hL12 : ∀ (k12_96 : Int32 → Int32 → Option (T_Rd)), (∀ (x4 : Int32) (x5 : Int32), k12_96 x4 x5 = some o_v → WW p l e rm_Rd_readWord s m args below meth c D A 2 0 0 (MQ below (QV D K A (cl_Rd K q o_v)) args s 0 0 A) ([((q 0), ob 5 [.ref (q 1), .int (Rd_filled v), .int (Rd_fault v), .int (Rd_faultPlace v), .ref (q 2), .ref (q 3), .ref (q 4), .ref (q 5), .int (Rd_limit v), .int x4, .int (1 : Int32), .int x5, .int (Rd_place v), .int (Rd_toldRules v), .int (Rd_toldData v)]), ((q 1), aB K 700 (Rd_tape v)), ((q 2), aI K 25 (Rd_words v)), ((q 3), aI K 75 (Rd_sorts v)), ((q 4), aI K 3 (Rd_parts v)), ((q 5), aI K 64 (Rd_wantedPlaces v))]) ([]) ([]) 96) → ∀ (n12 : Nat) (x1 : Int32) (x2 : Int32) (x3 : Int32), f_Rd_readWord_L12 v k12_96 n12 x1 x2 x3 = some o_v → WW p l e rm_Rd_readWord s m args below meth c D A 2 0 0 (MQ below (QV D K A (cl_Rd K q o_v)) args s 0 0 A) ([((q 0), ob 5 [.ref (q 1), .int (Rd_filled v), .int (Rd_fault v), .int (Rd_faultPlace v), .ref (q 2), .ref (q 3), .ref (q 4), .ref (q 5), .int (Rd_limit v), .int x2, .int (1 : Int32), .int x3, .int (Rd_place v), .int (Rd_toldRules v), .int (Rd_toldData v)]), ((q 1), aB K 700 (Rd_tape v)), ((q 2), aI K 25 (Rd_words v)), ((q 3), aI K 75 (Rd_sorts v)), ((q 4), aI K 3 (Rd_parts v)), ((q 5), aI K 64 (Rd_wantedPlaces v))]) ([(0, .ref (q 0)), (1, .int x1)]) ([]) 12 := by
    clear hf
    intro k12_96 hk12_96 n12
    induction n12 with
    | zero => intro x1 x2 x3 hf; exact (nomatch (show (none : Option (T_Rd)) = some _ from hf))
    | succ n12 ih12 =>
      intro x1 x2 x3 hf
      rw [f_Rd_readWord_L12] at hf
      refine r_aload_n (pc := 12) cx dX6_readWord_12 0 rfl ?_
      refine r_get (pc := 13) cx cf_X6 0 9 rfl (by decide) rfl wd_261 dX6_readWord_13 ?_
      refine r_aload_n (pc := 16) cx dX6_readWord_16 0 rfl ?_
      refine r_get (pc := 17) cx cf_X6 0 8 rfl (by decide) rfl wd_260 dX6_readWord_17 ?_
      refine r_icmp_ge (pc := 20) (tgt := 96) cx dX6_readWord_20 (by decide) (fun h6 => ?_) (fun h6 => ?_)
      · replace hf := ifp h6 hf
        refine r_loc (loc' := []) [] rfl ?_
        exact hk12_96 _ _ hf
      · replace hf := ifn h6 hf
        refine r_aload_n (pc := 23) cx dX6_readWord_23 0 rfl ?_
        refine r_aload_n (pc := 24) cx dX6_readWord_24 0 rfl ?_
        refine r_get (pc := 25) cx cf_X6 0 9 rfl (by decide) rfl wd_261 dX6_readWord_25 ?_
        replace hf := bd_of hf
        obtain ⟨r7, hc8, hf⟩ := hf
        refine r_Vi (pc := 28) (ws' := [((q 0), ob 5 [.ref (q 1), .int (Rd_filled v), .int (Rd_fault v), .int (Rd_faultPlace v), .ref (q 2), .ref (q 3), .ref (q 4), .ref (q 5), .int (Rd_limit v), .int x2, .int (1 : Int32), .int x3, .int (Rd_place v), .int (Rd_toldRules v), .int (Rd_toldData v)]), ((q 1), aB K 700 (Rd_tape v)), ((q 2), aI K 25 (Rd_words v)), ((q 3), aI K 75 (Rd_sorts v)), ((q 4), aI K 3 (Rd_parts v)), ((q 5), aI K 64 (Rd_wantedPlaces v))]) (wc := [((q 0), ob 5 [.ref (q 1), .int (Rd_filled v), .int (Rd_fault v), .int (Rd_faultPlace v), .ref (q 2), .ref (q 3), .ref (q 4), .ref (q 5), .int (Rd_limit v), .int x2, .int (1 : Int32), .int x3, .int (Rd_place v), .int (Rd_toldRules v), .int (Rd_toldData v)]), ((q 1), aB K 700 (Rd_tape v)), ((q 2), aI K 25 (Rd_words v)), ((q 3), aI K 75 (Rd_sorts v)), ((q 4), aI K 3 (Rd_parts v)), ((q 5), aI K 64 (Rd_wantedPlaces v))]) (nn := 6) cx [.int x2] [] (m_Rd_signAt l D K q ((Rd_tape v), (Rd_filled v), (Rd_fault v), (Rd_faultPlace v), (Rd_words v), (Rd_sorts v), (Rd_parts v), (Rd_wantedPlaces v), (Rd_limit v), x2, (1 : Int32), x3, (Rd_place v), (Rd_toldRules v), (Rd_toldData v)) x2 hc8) (by (try simp only [cl_Rd, Rd_tape_mk, Rd_filled_mk, Rd_fault_mk, Rd_faultPlace_mk, Rd_words_mk, Rd_sorts_mk, Rd_parts_mk, Rd_wantedPlaces_mk, Rd_limit_mk, Rd_position_mk, Rd_token_mk, Rd_value_mk, Rd_place_mk, Rd_toldRules_mk, Rd_toldData_mk, List.cons_append, List.nil_append, List.append_nil]) <;> rfl) yv_X6_signAt wd_625 ⟨rfl, rfl⟩ (by decide) (fr_s (j := 0) rfl rfl rfl (fr_s (j := 1) rfl rfl rfl (fr_s (j := 2) rfl rfl rfl (fr_s (j := 3) rfl rfl rfl (fr_s (j := 4) rfl rfl rfl (fr_s (j := 5) rfl rfl rfl (fr_n))))))) rfl (by decide) 0 rfl rfl rfl (Nat.le_of_ble_eq_true rfl) dX6_readWord_28 ?_
        refine r_bipush (pc := 31) cx dX6_readWord_31 bp_97 ?_
        refine r_icmp_lt (pc := 33) (tgt := 96) cx dX6_readWord_33 (by decide) (fun h9 => ?_) (fun h9 => ?_)
        · replace hf := ifp h9 hf
          refine r_loc (loc' := []) [] rfl ?_
          exact hk12_96 _ _ hf
        · replace hf := ifn h9 hf
          refine r_aload_n (pc := 36) cx dX6_readWord_36 0 rfl ?_
          refine r_aload_n (pc := 37) cx dX6_readWord_37 0 rfl ?_
          refine r_get (pc := 38) cx cf_X6 0 9 rfl (by decide) rfl wd_261 dX6_readWord_38 ?_
          replace hf := bd_of hf
          obtain ⟨r10, hc11, hf⟩ := hf
          refine r_Vi (pc := 41) (ws' := [((q 0), ob 5 [.ref (q 1), .int (Rd_filled v), .int (Rd_fault v), .int (Rd_faultPlace v), .ref (q 2), .ref (q 3), .ref (q 4), .ref (q 5), .int (Rd_limit v), .int x2, .int (1 : Int32), .int x3, .int (Rd_place v), .int (Rd_toldRules v), .int (Rd_toldData v)]), ((q 1), aB K 700 (Rd_tape v)), ((q 2), aI K 25 (Rd_words v)), ((q 3), aI K 75 (Rd_sorts v)), ((q 4), aI K 3 (Rd_parts v)), ((q 5), aI K 64 (Rd_wantedPlaces v))]) (wc := [((q 0), ob 5 [.ref (q 1), .int (Rd_filled v), .int (Rd_fault v), .int (Rd_faultPlace v), .ref (q 2), .ref (q 3), .ref (q 4), .ref (q 5), .int (Rd_limit v), .int x2, .int (1 : Int32), .int x3, .int (Rd_place v), .int (Rd_toldRules v), .int (Rd_toldData v)]), ((q 1), aB K 700 (Rd_tape v)), ((q 2), aI K 25 (Rd_words v)), ((q 3), aI K 75 (Rd_sorts v)), ((q 4), aI K 3 (Rd_parts v)), ((q 5), aI K 64 (Rd_wantedPlaces v))]) (nn := 6) cx [.int x2] [] (m_Rd_signAt l D K q ((Rd_tape v), (Rd_filled v), (Rd_fault v), (Rd_faultPlace v), (Rd_words v), (Rd_sorts v), (Rd_parts v), (Rd_wantedPlaces v), (Rd_limit v), x2, (1 : Int32), x3, (Rd_place v), (Rd_toldRules v), (Rd_toldData v)) x2 hc11) (by (try simp only [cl_Rd, Rd_tape_mk, Rd_filled_mk, Rd_fault_mk, Rd_faultPlace_mk, Rd_words_mk, Rd_sorts_mk, Rd_parts_mk, Rd_wantedPlaces_mk, Rd_limit_mk, Rd_position_mk, Rd_token_mk, Rd_value_mk, Rd_place_mk, Rd_toldRules_mk, Rd_toldData_mk, List.cons_append, List.nil_append, List.append_nil]) <;> rfl) yv_X6_signAt wd_625 ⟨rfl, rfl⟩ (by decide) (fr_s (j := 0) rfl rfl rfl (fr_s (j := 1) rfl rfl rfl (fr_s (j := 2) rfl rfl rfl (fr_s (j := 3) rfl rfl rfl (fr_s (j := 4) rfl rfl rfl (fr_s (j := 5) rfl rfl rfl (fr_n))))))) rfl (by decide) 0 rfl rfl rfl (Nat.le_of_ble_eq_true rfl) dX6_readWord_41 ?_
          refine r_bipush (pc := 44) cx dX6_readWord_44 bp_122 ?_
          refine r_icmp_gt (pc := 46) (tgt := 96) cx dX6_readWord_46 (by decide) (fun h12 => ?_) (fun h12 => ?_)
          · replace hf := ifp h12 hf
            refine r_loc (loc' := []) [] rfl ?_
            exact hk12_96 _ _ hf
          · replace hf := ifn h12 hf
            refine r_aload_n (pc := 49) cx dX6_readWord_49 0 rfl ?_
            refine r_iload_n (pc := 50) cx dX6_readWord_50 1 rfl ?_
            refine r_bipush (pc := 51) cx dX6_readWord_51 bp_6 ?_
            replace hf := nm_of hf
            obtain ⟨J14, eJ14, hf⟩ := hf
            have hJ14 : ∀ (y13 : Int32), J14 y13 = some o_v → WW p l e rm_Rd_readWord s m args below meth c D A 2 0 0 (MQ below (QV D K A (cl_Rd K q o_v)) args s 0 0 A) ([((q 0), ob 5 [.ref (q 1), .int (Rd_filled v), .int (Rd_fault v), .int (Rd_faultPlace v), .ref (q 2), .ref (q 3), .ref (q 4), .ref (q 5), .int (Rd_limit v), .int x2, .int (1 : Int32), .int x3, .int (Rd_place v), .int (Rd_toldRules v), .int (Rd_toldData v)]), ((q 1), aB K 700 (Rd_tape v)), ((q 2), aI K 25 (Rd_words v)), ((q 3), aI K 75 (Rd_sorts v)), ((q 4), aI K 3 (Rd_parts v)), ((q 5), aI K 64 (Rd_wantedPlaces v))]) ([(0, .ref (q 0)), (1, .int x1)]) ([.int y13, .ref (q 0)]) 77 := by
              clear hf
              intro y13 hf
              rw [eJ14] at hf
              refine r_putI (pc := 77) (ws' := [((q 0), ob 5 [.ref (q 1), .int (Rd_filled v), .int (Rd_fault v), .int (Rd_faultPlace v), .ref (q 2), .ref (q 3), .ref (q 4), .ref (q 5), .int (Rd_limit v), .int x2, .int (1 : Int32), .int y13, .int (Rd_place v), .int (Rd_toldRules v), .int (Rd_toldData v)]), ((q 1), aB K 700 (Rd_tape v)), ((q 2), aI K 25 (Rd_words v)), ((q 3), aI K 75 (Rd_sorts v)), ((q 4), aI K 3 (Rd_parts v)), ((q 5), aI K 64 (Rd_wantedPlaces v))]) cx cf_X6 0 11 rfl (by decide) (Nat.le_of_ble_eq_true rfl) rfl pfd_I wd_263 dX6_readWord_77 rfl ?_
              replace hf := nm_of hf
              obtain ⟨x15, ex15, hf⟩ := hf
              refine r_iinc (pc := 80) (loc' := [(1, .int x15), (0, .ref (q 0))]) (v := x15) cx dX6_readWord_80 1 rfl ((congrArg (fun z => x1 + z) ic_1).trans ex15.symm) (by decide) rfl ?_
              refine r_aload_n (pc := 83) cx dX6_readWord_83 1 rfl ?_
              refine r_dup (pc := 84) cx dX6_readWord_84 rfl ?_
              refine r_get (pc := 85) cx cf_X6 0 9 rfl (by decide) rfl wd_261 dX6_readWord_85 ?_
              refine r_iconst (pc := 88) cx dX6_readWord_88 ic_1 ?_
              refine r_iadd (pc := 89) cx dX6_readWord_89 ?_
              replace hf := nm_of hf
              obtain ⟨x16, ex16, hf⟩ := hf
              refine r_nm ex16 ?_
              refine r_putI (pc := 90) (ws' := [((q 0), ob 5 [.ref (q 1), .int (Rd_filled v), .int (Rd_fault v), .int (Rd_faultPlace v), .ref (q 2), .ref (q 3), .ref (q 4), .ref (q 5), .int (Rd_limit v), .int x16, .int (1 : Int32), .int y13, .int (Rd_place v), .int (Rd_toldRules v), .int (Rd_toldData v)]), ((q 1), aB K 700 (Rd_tape v)), ((q 2), aI K 25 (Rd_words v)), ((q 3), aI K 75 (Rd_sorts v)), ((q 4), aI K 3 (Rd_parts v)), ((q 5), aI K 64 (Rd_wantedPlaces v))]) cx cf_X6 0 9 rfl (by decide) (Nat.le_of_ble_eq_true rfl) rfl pfd_I wd_261 dX6_readWord_90 rfl ?_
              refine r_goto (pc := 93) (tgt := 12) cx dX6_readWord_93 (by decide) ?_
              refine r_loc (loc' := [(0, .ref (q 0)), (1, .int x15)]) [1, 0] rfl ?_
              exact ih12 _ _ _ hf
            refine r_icmp_ge (pc := 53) (tgt := 76) cx dX6_readWord_53 (by decide) (fun h17 => ?_) (fun h17 => ?_)
            · replace hf := ifp h17 hf
              refine r_iconst (pc := 76) cx dX6_readWord_76 ic_m1 ?_
              exact hJ14 _ hf
            · replace hf := ifn h17 hf
              refine r_aload_n (pc := 56) cx dX6_readWord_56 0 rfl ?_
              refine r_get (pc := 57) cx cf_X6 0 11 rfl (by decide) rfl wd_263 dX6_readWord_57 ?_
              refine r_aload_n (pc := 60) cx dX6_readWord_60 0 rfl ?_
              refine r_aload_n (pc := 61) cx dX6_readWord_61 0 rfl ?_
              refine r_get (pc := 62) cx cf_X6 0 9 rfl (by decide) rfl wd_261 dX6_readWord_62 ?_
              replace hf := bd_of hf
              obtain ⟨r18, hc19, hf⟩ := hf
              refine r_Vi (pc := 65) (ws' := [((q 0), ob 5 [.ref (q 1), .int (Rd_filled v), .int (Rd_fault v), .int (Rd_faultPlace v), .ref (q 2), .ref (q 3), .ref (q 4), .ref (q 5), .int (Rd_limit v), .int x2, .int (1 : Int32), .int x3, .int (Rd_place v), .int (Rd_toldRules v), .int (Rd_toldData v)]), ((q 1), aB K 700 (Rd_tape v)), ((q 2), aI K 25 (Rd_words v)), ((q 3), aI K 75 (Rd_sorts v)), ((q 4), aI K 3 (Rd_parts v)), ((q 5), aI K 64 (Rd_wantedPlaces v))]) (wc := [((q 0), ob 5 [.ref (q 1), .int (Rd_filled v), .int (Rd_fault v), .int (Rd_faultPlace v), .ref (q 2), .ref (q 3), .ref (q 4), .ref (q 5), .int (Rd_limit v), .int x2, .int (1 : Int32), .int x3, .int (Rd_place v), .int (Rd_toldRules v), .int (Rd_toldData v)]), ((q 1), aB K 700 (Rd_tape v)), ((q 2), aI K 25 (Rd_words v)), ((q 3), aI K 75 (Rd_sorts v)), ((q 4), aI K 3 (Rd_parts v)), ((q 5), aI K 64 (Rd_wantedPlaces v))]) (nn := 6) cx [.int x2] [.int x3, .ref (q 0)] (m_Rd_signAt l D K q ((Rd_tape v), (Rd_filled v), (Rd_fault v), (Rd_faultPlace v), (Rd_words v), (Rd_sorts v), (Rd_parts v), (Rd_wantedPlaces v), (Rd_limit v), x2, (1 : Int32), x3, (Rd_place v), (Rd_toldRules v), (Rd_toldData v)) x2 hc19) (by (try simp only [cl_Rd, Rd_tape_mk, Rd_filled_mk, Rd_fault_mk, Rd_faultPlace_mk, Rd_words_mk, Rd_sorts_mk, Rd_parts_mk, Rd_wantedPlaces_mk, Rd_limit_mk, Rd_position_mk, Rd_token_mk, Rd_value_mk, Rd_place_mk, Rd_toldRules_mk, Rd_toldData_mk, List.cons_append, List.nil_append, List.append_nil]) <;> rfl) yv_X6_signAt wd_625 ⟨rfl, rfl⟩ (by decide) (fr_s (j := 0) rfl rfl rfl (fr_s (j := 1) rfl rfl rfl (fr_s (j := 2) rfl rfl rfl (fr_s (j := 3) rfl rfl rfl (fr_s (j := 4) rfl rfl rfl (fr_s (j := 5) rfl rfl rfl (fr_n))))))) rfl (by decide) 0 rfl rfl rfl (Nat.le_of_ble_eq_true rfl) dX6_readWord_65 ?_
              refine r_iload_n (pc := 68) cx dX6_readWord_68 1 rfl ?_
              replace hf := bd_of hf
              obtain ⟨r20, hc21, hf⟩ := hf
              refine r_Si (pc := 69) (ws' := [((q 0), ob 5 [.ref (q 1), .int (Rd_filled v), .int (Rd_fault v), .int (Rd_faultPlace v), .ref (q 2), .ref (q 3), .ref (q 4), .ref (q 5), .int (Rd_limit v), .int x2, .int (1 : Int32), .int x3, .int (Rd_place v), .int (Rd_toldRules v), .int (Rd_toldData v)]), ((q 1), aB K 700 (Rd_tape v)), ((q 2), aI K 25 (Rd_words v)), ((q 3), aI K 75 (Rd_sorts v)), ((q 4), aI K 3 (Rd_parts v)), ((q 5), aI K 64 (Rd_wantedPlaces v))]) (wc := []) (nn := 0) cx [.int r18, .int x1] [.int x3, .ref (q 0)] (m_Rd_letterBits l D K r18 x1 hc21) rfl ys_X6_letterBits wd_244 ⟨rfl, rfl⟩ (by decide) (fr_k (fr_k (fr_k (fr_k (fr_k (fr_k (fr_n))))))) rfl (by decide) rfl (Nat.le_of_ble_eq_true rfl) dX6_readWord_69 ?_
              refine r_ior (pc := 72) cx dX6_readWord_72 ?_
              refine r_goto (pc := 73) (tgt := 77) cx dX6_readWord_73 (by decide) ?_
              exact hJ14 _ hf
  refine r_loc (loc' := [(0, .ref (q 0)), (1, .int (0 : Int32))]) [1, 0] rfl ?_
  refine hL12 _ (fun x4 x5 hf => ?_) _ _ _ _ hf
  have hi := inj1 hf
  exact r_vret (pc := 96) cx (by rw [← hi]; (try simp only [cl_Rd, Rd_tape_mk, Rd_filled_mk, Rd_fault_mk, Rd_faultPlace_mk, Rd_words_mk, Rd_sorts_mk, Rd_parts_mk, Rd_wantedPlaces_mk, Rd_limit_mk, Rd_position_mk, Rd_token_mk, Rd_value_mk, Rd_place_mk, Rd_toldRules_mk, Rd_toldData_mk, List.cons_append, List.nil_append, List.append_nil]) <;> rfl) dX6_readWord_96
theorem yv_X6_readWord : YV yX6_readWord cX6_readWord 2 (none) 0 := ⟨⟨by decide +kernel, by decide +kernel, by decide +kernel⟩, wd_632, wd_90, wd_631, wd_3⟩
abbrev rm_Rd_readNumber : Room := { frames := 1, cells := 0, slots := 0, locals := 23 }
set_option maxRecDepth 100000 in
set_option maxHeartbeats 4000000 in
theorem m_Rd_readNumber (l : Launch) (D : va_G) (K : Nat → ClassId) (q : Nat → Nat) (v : T_Rd) {o_v : T_Rd} (hf : f_Rd_readNumber v = some o_v) : MV l yX6_readNumber cX6_readNumber 1 (none) rm_Rd_readNumber D K [.ref (q 0)] (cl_Rd K q v) (cl_Rd K q o_v) := by
  refine MV_of (loc0 := [(0, .ref (q 0))]) (by decide +kernel) rfl (Nat.le_of_ble_eq_true rfl) ?_
  intro p e s m args below meth c A cx
  unfold f_Rd_readNumber at hf
  refine r_ws (ws' := [((q 0), ob 5 [.ref (q 1), .int (Rd_filled v), .int (Rd_fault v), .int (Rd_faultPlace v), .ref (q 2), .ref (q 3), .ref (q 4), .ref (q 5), .int (Rd_limit v), .int (Rd_position v), .int (Rd_token v), .int (Rd_value v), .int (Rd_place v), .int (Rd_toldRules v), .int (Rd_toldData v)]), ((q 1), aB K 700 (Rd_tape v)), ((q 2), aI K 25 (Rd_words v)), ((q 3), aI K 75 (Rd_sorts v)), ((q 4), aI K 3 (Rd_parts v)), ((q 5), aI K 64 (Rd_wantedPlaces v))]) rfl ?_
  refine r_aload_n (pc := 0) cx dX6_readNumber_0 0 rfl ?_
  refine r_iconst (pc := 1) cx dX6_readNumber_1 ic_2 ?_
  refine r_putI (pc := 2) (ws' := [((q 0), ob 5 [.ref (q 1), .int (Rd_filled v), .int (Rd_fault v), .int (Rd_faultPlace v), .ref (q 2), .ref (q 3), .ref (q 4), .ref (q 5), .int (Rd_limit v), .int (Rd_position v), .int (2 : Int32), .int (Rd_value v), .int (Rd_place v), .int (Rd_toldRules v), .int (Rd_toldData v)]), ((q 1), aB K 700 (Rd_tape v)), ((q 2), aI K 25 (Rd_words v)), ((q 3), aI K 75 (Rd_sorts v)), ((q 4), aI K 3 (Rd_parts v)), ((q 5), aI K 64 (Rd_wantedPlaces v))]) cx cf_X6 0 10 rfl (by decide) (Nat.le_of_ble_eq_true rfl) rfl pfd_I wd_262 dX6_readNumber_2 rfl ?_
  refine r_aload_n (pc := 5) cx dX6_readNumber_5 0 rfl ?_
  refine r_iconst (pc := 6) cx dX6_readNumber_6 ic_0 ?_
  refine r_putI (pc := 7) (ws' := [((q 0), ob 5 [.ref (q 1), .int (Rd_filled v), .int (Rd_fault v), .int (Rd_faultPlace v), .ref (q 2), .ref (q 3), .ref (q 4), .ref (q 5), .int (Rd_limit v), .int (Rd_position v), .int (2 : Int32), .int (0 : Int32), .int (Rd_place v), .int (Rd_toldRules v), .int (Rd_toldData v)]), ((q 1), aB K 700 (Rd_tape v)), ((q 2), aI K 25 (Rd_words v)), ((q 3), aI K 75 (Rd_sorts v)), ((q 4), aI K 3 (Rd_parts v)), ((q 5), aI K 64 (Rd_wantedPlaces v))]) cx cf_X6 0 11 rfl (by decide) (Nat.le_of_ble_eq_true rfl) rfl pfd_I wd_263 dX6_readNumber_7 rfl ?_
  have hL10 : ∀ (k10_88 : Int32 → Int32 → Option (T_Rd)), (∀ (x3 : Int32) (x4 : Int32), k10_88 x3 x4 = some o_v → WW p l e rm_Rd_readNumber s m args below meth c D A 1 0 0 (MQ below (QV D K A (cl_Rd K q o_v)) args s 0 0 A) ([((q 0), ob 5 [.ref (q 1), .int (Rd_filled v), .int (Rd_fault v), .int (Rd_faultPlace v), .ref (q 2), .ref (q 3), .ref (q 4), .ref (q 5), .int (Rd_limit v), .int x3, .int (2 : Int32), .int x4, .int (Rd_place v), .int (Rd_toldRules v), .int (Rd_toldData v)]), ((q 1), aB K 700 (Rd_tape v)), ((q 2), aI K 25 (Rd_words v)), ((q 3), aI K 75 (Rd_sorts v)), ((q 4), aI K 3 (Rd_parts v)), ((q 5), aI K 64 (Rd_wantedPlaces v))]) ([]) ([]) 88) → ∀ (n10 : Nat) (x1 : Int32) (x2 : Int32), f_Rd_readNumber_L10 v k10_88 n10 x1 x2 = some o_v → WW p l e rm_Rd_readNumber s m args below meth c D A 1 0 0 (MQ below (QV D K A (cl_Rd K q o_v)) args s 0 0 A) ([((q 0), ob 5 [.ref (q 1), .int (Rd_filled v), .int (Rd_fault v), .int (Rd_faultPlace v), .ref (q 2), .ref (q 3), .ref (q 4), .ref (q 5), .int (Rd_limit v), .int x1, .int (2 : Int32), .int x2, .int (Rd_place v), .int (Rd_toldRules v), .int (Rd_toldData v)]), ((q 1), aB K 700 (Rd_tape v)), ((q 2), aI K 25 (Rd_words v)), ((q 3), aI K 75 (Rd_sorts v)), ((q 4), aI K 3 (Rd_parts v)), ((q 5), aI K 64 (Rd_wantedPlaces v))]) ([(0, .ref (q 0))]) ([]) 10 := by
    clear hf
    intro k10_88 hk10_88 n10
    induction n10 with
    | zero => intro x1 x2 hf; exact (nomatch (show (none : Option (T_Rd)) = some _ from hf))
    | succ n10 ih10 =>
      intro x1 x2 hf
      rw [f_Rd_readNumber_L10] at hf
      refine r_aload_n (pc := 10) cx dX6_readNumber_10 0 rfl ?_
      refine r_get (pc := 11) cx cf_X6 0 9 rfl (by decide) rfl wd_261 dX6_readNumber_11 ?_
      refine r_aload_n (pc := 14) cx dX6_readNumber_14 0 rfl ?_
      refine r_get (pc := 15) cx cf_X6 0 8 rfl (by decide) rfl wd_260 dX6_readNumber_15 ?_
      refine r_icmp_ge (pc := 18) (tgt := 88) cx dX6_readNumber_18 (by decide) (fun h5 => ?_) (fun h5 => ?_)
      · replace hf := ifp h5 hf
        refine r_loc (loc' := []) [] rfl ?_
        exact hk10_88 _ _ hf
      · replace hf := ifn h5 hf
        refine r_aload_n (pc := 21) cx dX6_readNumber_21 0 rfl ?_
        refine r_aload_n (pc := 22) cx dX6_readNumber_22 0 rfl ?_
        refine r_get (pc := 23) cx cf_X6 0 9 rfl (by decide) rfl wd_261 dX6_readNumber_23 ?_
        replace hf := bd_of hf
        obtain ⟨r6, hc7, hf⟩ := hf
        refine r_Vi (pc := 26) (ws' := [((q 0), ob 5 [.ref (q 1), .int (Rd_filled v), .int (Rd_fault v), .int (Rd_faultPlace v), .ref (q 2), .ref (q 3), .ref (q 4), .ref (q 5), .int (Rd_limit v), .int x1, .int (2 : Int32), .int x2, .int (Rd_place v), .int (Rd_toldRules v), .int (Rd_toldData v)]), ((q 1), aB K 700 (Rd_tape v)), ((q 2), aI K 25 (Rd_words v)), ((q 3), aI K 75 (Rd_sorts v)), ((q 4), aI K 3 (Rd_parts v)), ((q 5), aI K 64 (Rd_wantedPlaces v))]) (wc := [((q 0), ob 5 [.ref (q 1), .int (Rd_filled v), .int (Rd_fault v), .int (Rd_faultPlace v), .ref (q 2), .ref (q 3), .ref (q 4), .ref (q 5), .int (Rd_limit v), .int x1, .int (2 : Int32), .int x2, .int (Rd_place v), .int (Rd_toldRules v), .int (Rd_toldData v)]), ((q 1), aB K 700 (Rd_tape v)), ((q 2), aI K 25 (Rd_words v)), ((q 3), aI K 75 (Rd_sorts v)), ((q 4), aI K 3 (Rd_parts v)), ((q 5), aI K 64 (Rd_wantedPlaces v))]) (nn := 6) cx [.int x1] [] (m_Rd_signAt l D K q ((Rd_tape v), (Rd_filled v), (Rd_fault v), (Rd_faultPlace v), (Rd_words v), (Rd_sorts v), (Rd_parts v), (Rd_wantedPlaces v), (Rd_limit v), x1, (2 : Int32), x2, (Rd_place v), (Rd_toldRules v), (Rd_toldData v)) x1 hc7) (by (try simp only [cl_Rd, Rd_tape_mk, Rd_filled_mk, Rd_fault_mk, Rd_faultPlace_mk, Rd_words_mk, Rd_sorts_mk, Rd_parts_mk, Rd_wantedPlaces_mk, Rd_limit_mk, Rd_position_mk, Rd_token_mk, Rd_value_mk, Rd_place_mk, Rd_toldRules_mk, Rd_toldData_mk, List.cons_append, List.nil_append, List.append_nil]) <;> rfl) yv_X6_signAt wd_625 ⟨rfl, rfl⟩ (by decide) (fr_s (j := 0) rfl rfl rfl (fr_s (j := 1) rfl rfl rfl (fr_s (j := 2) rfl rfl rfl (fr_s (j := 3) rfl rfl rfl (fr_s (j := 4) rfl rfl rfl (fr_s (j := 5) rfl rfl rfl (fr_n))))))) rfl (by decide) 0 rfl rfl rfl (Nat.le_of_ble_eq_true rfl) dX6_readNumber_26 ?_
        refine r_bipush (pc := 29) cx dX6_readNumber_29 bp_48 ?_
        refine r_icmp_lt (pc := 31) (tgt := 88) cx dX6_readNumber_31 (by decide) (fun h8 => ?_) (fun h8 => ?_)
        · replace hf := ifp h8 hf
          refine r_loc (loc' := []) [] rfl ?_
          exact hk10_88 _ _ hf
        · replace hf := ifn h8 hf
          refine r_aload_n (pc := 34) cx dX6_readNumber_34 0 rfl ?_
          refine r_aload_n (pc := 35) cx dX6_readNumber_35 0 rfl ?_
          refine r_get (pc := 36) cx cf_X6 0 9 rfl (by decide) rfl wd_261 dX6_readNumber_36 ?_
          replace hf := bd_of hf
          obtain ⟨r9, hc10, hf⟩ := hf
          refine r_Vi (pc := 39) (ws' := [((q 0), ob 5 [.ref (q 1), .int (Rd_filled v), .int (Rd_fault v), .int (Rd_faultPlace v), .ref (q 2), .ref (q 3), .ref (q 4), .ref (q 5), .int (Rd_limit v), .int x1, .int (2 : Int32), .int x2, .int (Rd_place v), .int (Rd_toldRules v), .int (Rd_toldData v)]), ((q 1), aB K 700 (Rd_tape v)), ((q 2), aI K 25 (Rd_words v)), ((q 3), aI K 75 (Rd_sorts v)), ((q 4), aI K 3 (Rd_parts v)), ((q 5), aI K 64 (Rd_wantedPlaces v))]) (wc := [((q 0), ob 5 [.ref (q 1), .int (Rd_filled v), .int (Rd_fault v), .int (Rd_faultPlace v), .ref (q 2), .ref (q 3), .ref (q 4), .ref (q 5), .int (Rd_limit v), .int x1, .int (2 : Int32), .int x2, .int (Rd_place v), .int (Rd_toldRules v), .int (Rd_toldData v)]), ((q 1), aB K 700 (Rd_tape v)), ((q 2), aI K 25 (Rd_words v)), ((q 3), aI K 75 (Rd_sorts v)), ((q 4), aI K 3 (Rd_parts v)), ((q 5), aI K 64 (Rd_wantedPlaces v))]) (nn := 6) cx [.int x1] [] (m_Rd_signAt l D K q ((Rd_tape v), (Rd_filled v), (Rd_fault v), (Rd_faultPlace v), (Rd_words v), (Rd_sorts v), (Rd_parts v), (Rd_wantedPlaces v), (Rd_limit v), x1, (2 : Int32), x2, (Rd_place v), (Rd_toldRules v), (Rd_toldData v)) x1 hc10) (by (try simp only [cl_Rd, Rd_tape_mk, Rd_filled_mk, Rd_fault_mk, Rd_faultPlace_mk, Rd_words_mk, Rd_sorts_mk, Rd_parts_mk, Rd_wantedPlaces_mk, Rd_limit_mk, Rd_position_mk, Rd_token_mk, Rd_value_mk, Rd_place_mk, Rd_toldRules_mk, Rd_toldData_mk, List.cons_append, List.nil_append, List.append_nil]) <;> rfl) yv_X6_signAt wd_625 ⟨rfl, rfl⟩ (by decide) (fr_s (j := 0) rfl rfl rfl (fr_s (j := 1) rfl rfl rfl (fr_s (j := 2) rfl rfl rfl (fr_s (j := 3) rfl rfl rfl (fr_s (j := 4) rfl rfl rfl (fr_s (j := 5) rfl rfl rfl (fr_n))))))) rfl (by decide) 0 rfl rfl rfl (Nat.le_of_ble_eq_true rfl) dX6_readNumber_39 ?_
          refine r_bipush (pc := 42) cx dX6_readNumber_42 bp_57 ?_
          refine r_icmp_gt (pc := 44) (tgt := 88) cx dX6_readNumber_44 (by decide) (fun h11 => ?_) (fun h11 => ?_)
          · replace hf := ifp h11 hf
            refine r_loc (loc' := []) [] rfl ?_
            exact hk10_88 _ _ hf
          · replace hf := ifn h11 hf
            refine r_aload_n (pc := 47) cx dX6_readNumber_47 0 rfl ?_
            refine r_aload_n (pc := 48) cx dX6_readNumber_48 0 rfl ?_
            refine r_get (pc := 49) cx cf_X6 0 11 rfl (by decide) rfl wd_263 dX6_readNumber_49 ?_
            refine r_bipush (pc := 52) cx dX6_readNumber_52 bp_10 ?_
            refine r_imul (pc := 54) cx dX6_readNumber_54 ?_
            refine r_aload_n (pc := 55) cx dX6_readNumber_55 0 rfl ?_
            refine r_aload_n (pc := 56) cx dX6_readNumber_56 0 rfl ?_
            refine r_get (pc := 57) cx cf_X6 0 9 rfl (by decide) rfl wd_261 dX6_readNumber_57 ?_
            replace hf := bd_of hf
            obtain ⟨r12, hc13, hf⟩ := hf
            refine r_Vi (pc := 60) (ws' := [((q 0), ob 5 [.ref (q 1), .int (Rd_filled v), .int (Rd_fault v), .int (Rd_faultPlace v), .ref (q 2), .ref (q 3), .ref (q 4), .ref (q 5), .int (Rd_limit v), .int x1, .int (2 : Int32), .int x2, .int (Rd_place v), .int (Rd_toldRules v), .int (Rd_toldData v)]), ((q 1), aB K 700 (Rd_tape v)), ((q 2), aI K 25 (Rd_words v)), ((q 3), aI K 75 (Rd_sorts v)), ((q 4), aI K 3 (Rd_parts v)), ((q 5), aI K 64 (Rd_wantedPlaces v))]) (wc := [((q 0), ob 5 [.ref (q 1), .int (Rd_filled v), .int (Rd_fault v), .int (Rd_faultPlace v), .ref (q 2), .ref (q 3), .ref (q 4), .ref (q 5), .int (Rd_limit v), .int x1, .int (2 : Int32), .int x2, .int (Rd_place v), .int (Rd_toldRules v), .int (Rd_toldData v)]), ((q 1), aB K 700 (Rd_tape v)), ((q 2), aI K 25 (Rd_words v)), ((q 3), aI K 75 (Rd_sorts v)), ((q 4), aI K 3 (Rd_parts v)), ((q 5), aI K 64 (Rd_wantedPlaces v))]) (nn := 6) cx [.int x1] [.int (x2 * (10 : Int32)), .ref (q 0)] (m_Rd_signAt l D K q ((Rd_tape v), (Rd_filled v), (Rd_fault v), (Rd_faultPlace v), (Rd_words v), (Rd_sorts v), (Rd_parts v), (Rd_wantedPlaces v), (Rd_limit v), x1, (2 : Int32), x2, (Rd_place v), (Rd_toldRules v), (Rd_toldData v)) x1 hc13) (by (try simp only [cl_Rd, Rd_tape_mk, Rd_filled_mk, Rd_fault_mk, Rd_faultPlace_mk, Rd_words_mk, Rd_sorts_mk, Rd_parts_mk, Rd_wantedPlaces_mk, Rd_limit_mk, Rd_position_mk, Rd_token_mk, Rd_value_mk, Rd_place_mk, Rd_toldRules_mk, Rd_toldData_mk, List.cons_append, List.nil_append, List.append_nil]) <;> rfl) yv_X6_signAt wd_625 ⟨rfl, rfl⟩ (by decide) (fr_s (j := 0) rfl rfl rfl (fr_s (j := 1) rfl rfl rfl (fr_s (j := 2) rfl rfl rfl (fr_s (j := 3) rfl rfl rfl (fr_s (j := 4) rfl rfl rfl (fr_s (j := 5) rfl rfl rfl (fr_n))))))) rfl (by decide) 0 rfl rfl rfl (Nat.le_of_ble_eq_true rfl) dX6_readNumber_60 ?_
            refine r_iadd (pc := 63) cx dX6_readNumber_63 ?_
            refine r_bipush (pc := 64) cx dX6_readNumber_64 bp_48 ?_
            refine r_isub (pc := 66) cx dX6_readNumber_66 ?_
            refine r_ldc (pc := 67) cx dX6_readNumber_67 wd_637 ?_
            refine r_mmin (pc := 69) cx wd_638 ys_J9_min_7cf53 (by decide) (Nat.le_of_ble_eq_true rfl) dX6_readNumber_69 ?_
            replace hf := nm_of hf
            obtain ⟨x14, ex14, hf⟩ := hf
            refine r_nm ex14 ?_
            refine r_putI (pc := 72) (ws' := [((q 0), ob 5 [.ref (q 1), .int (Rd_filled v), .int (Rd_fault v), .int (Rd_faultPlace v), .ref (q 2), .ref (q 3), .ref (q 4), .ref (q 5), .int (Rd_limit v), .int x1, .int (2 : Int32), .int x14, .int (Rd_place v), .int (Rd_toldRules v), .int (Rd_toldData v)]), ((q 1), aB K 700 (Rd_tape v)), ((q 2), aI K 25 (Rd_words v)), ((q 3), aI K 75 (Rd_sorts v)), ((q 4), aI K 3 (Rd_parts v)), ((q 5), aI K 64 (Rd_wantedPlaces v))]) cx cf_X6 0 11 rfl (by decide) (Nat.le_of_ble_eq_true rfl) rfl pfd_I wd_263 dX6_readNumber_72 rfl ?_
            refine r_aload_n (pc := 75) cx dX6_readNumber_75 0 rfl ?_
            refine r_dup (pc := 76) cx dX6_readNumber_76 rfl ?_
            refine r_get (pc := 77) cx cf_X6 0 9 rfl (by decide) rfl wd_261 dX6_readNumber_77 ?_
            refine r_iconst (pc := 80) cx dX6_readNumber_80 ic_1 ?_
            refine r_iadd (pc := 81) cx dX6_readNumber_81 ?_
            replace hf := nm_of hf
            obtain ⟨x15, ex15, hf⟩ := hf
            refine r_nm ex15 ?_
            refine r_putI (pc := 82) (ws' := [((q 0), ob 5 [.ref (q 1), .int (Rd_filled v), .int (Rd_fault v), .int (Rd_faultPlace v), .ref (q 2), .ref (q 3), .ref (q 4), .ref (q 5), .int (Rd_limit v), .int x15, .int (2 : Int32), .int x14, .int (Rd_place v), .int (Rd_toldRules v), .int (Rd_toldData v)]), ((q 1), aB K 700 (Rd_tape v)), ((q 2), aI K 25 (Rd_words v)), ((q 3), aI K 75 (Rd_sorts v)), ((q 4), aI K 3 (Rd_parts v)), ((q 5), aI K 64 (Rd_wantedPlaces v))]) cx cf_X6 0 9 rfl (by decide) (Nat.le_of_ble_eq_true rfl) rfl pfd_I wd_261 dX6_readNumber_82 rfl ?_
            refine r_goto (pc := 85) (tgt := 10) cx dX6_readNumber_85 (by decide) ?_
            exact ih10 _ _ hf
  refine hL10 _ (fun x3 x4 hf => ?_) _ _ _ hf
  have hi := inj1 hf
  exact r_vret (pc := 88) cx (by rw [← hi]; (try simp only [cl_Rd, Rd_tape_mk, Rd_filled_mk, Rd_fault_mk, Rd_faultPlace_mk, Rd_words_mk, Rd_sorts_mk, Rd_parts_mk, Rd_wantedPlaces_mk, Rd_limit_mk, Rd_position_mk, Rd_token_mk, Rd_value_mk, Rd_place_mk, Rd_toldRules_mk, Rd_toldData_mk, List.cons_append, List.nil_append, List.append_nil]) <;> rfl) dX6_readNumber_88
theorem yv_X6_readNumber : YV yX6_readNumber cX6_readNumber 1 (none) 0 := ⟨⟨by decide +kernel, by decide +kernel, by decide +kernel⟩, wd_636, wd_90, wd_635, wd_4⟩
abbrev rm_Rd_advance : Room := { frames := 2, cells := 0, slots := 0, locals := 43 }
set_option maxRecDepth 100000 in
set_option maxHeartbeats 4000000 in
theorem m_Rd_advance (l : Launch) (D : va_G) (K : Nat → ClassId) (q : Nat → Nat) (v : T_Rd) {o_v : T_Rd} (hf : f_Rd_advance v = some o_v) : MV l yX6_advance cX6_advance 2 (none) rm_Rd_advance D K [.ref (q 0)] (cl_Rd K q v) (cl_Rd K q o_v) := by
  refine MV_of (loc0 := [(0, .ref (q 0))]) (by decide +kernel) rfl (Nat.le_of_ble_eq_true rfl) ?_
  intro p e s m args below meth c A cx
  unfold f_Rd_advance at hf
  refine r_ws (ws' := [((q 0), ob 5 [.ref (q 1), .int (Rd_filled v), .int (Rd_fault v), .int (Rd_faultPlace v), .ref (q 2), .ref (q 3), .ref (q 4), .ref (q 5), .int (Rd_limit v), .int (Rd_position v), .int (Rd_token v), .int (Rd_value v), .int (Rd_place v), .int (Rd_toldRules v), .int (Rd_toldData v)]), ((q 1), aB K 700 (Rd_tape v)), ((q 2), aI K 25 (Rd_words v)), ((q 3), aI K 75 (Rd_sorts v)), ((q 4), aI K 3 (Rd_parts v)), ((q 5), aI K 64 (Rd_wantedPlaces v))]) rfl ?_
  have hL0 : ∀ (k0_50 : Int32 → Option (T_Rd)), (∀ (x2 : Int32), k0_50 x2 = some o_v → WW p l e rm_Rd_advance s m args below meth c D A 2 0 0 (MQ below (QV D K A (cl_Rd K q o_v)) args s 0 0 A) ([((q 0), ob 5 [.ref (q 1), .int (Rd_filled v), .int (Rd_fault v), .int (Rd_faultPlace v), .ref (q 2), .ref (q 3), .ref (q 4), .ref (q 5), .int (Rd_limit v), .int x2, .int (Rd_token v), .int (Rd_value v), .int (Rd_place v), .int (Rd_toldRules v), .int (Rd_toldData v)]), ((q 1), aB K 700 (Rd_tape v)), ((q 2), aI K 25 (Rd_words v)), ((q 3), aI K 75 (Rd_sorts v)), ((q 4), aI K 3 (Rd_parts v)), ((q 5), aI K 64 (Rd_wantedPlaces v))]) ([(0, .ref (q 0))]) ([]) 50) → ∀ (n0 : Nat) (x1 : Int32), f_Rd_advance_L0 v k0_50 n0 x1 = some o_v → WW p l e rm_Rd_advance s m args below meth c D A 2 0 0 (MQ below (QV D K A (cl_Rd K q o_v)) args s 0 0 A) ([((q 0), ob 5 [.ref (q 1), .int (Rd_filled v), .int (Rd_fault v), .int (Rd_faultPlace v), .ref (q 2), .ref (q 3), .ref (q 4), .ref (q 5), .int (Rd_limit v), .int x1, .int (Rd_token v), .int (Rd_value v), .int (Rd_place v), .int (Rd_toldRules v), .int (Rd_toldData v)]), ((q 1), aB K 700 (Rd_tape v)), ((q 2), aI K 25 (Rd_words v)), ((q 3), aI K 75 (Rd_sorts v)), ((q 4), aI K 3 (Rd_parts v)), ((q 5), aI K 64 (Rd_wantedPlaces v))]) ([(0, .ref (q 0))]) ([]) 0 := by
    clear hf
    intro k0_50 hk0_50 n0
    induction n0 with
    | zero => intro x1 hf; exact (nomatch (show (none : Option (T_Rd)) = some _ from hf))
    | succ n0 ih0 =>
      intro x1 hf
      rw [f_Rd_advance_L0] at hf
      refine r_aload_n (pc := 0) cx dX6_advance_0 0 rfl ?_
      refine r_get (pc := 1) cx cf_X6 0 9 rfl (by decide) rfl wd_261 dX6_advance_1 ?_
      refine r_aload_n (pc := 4) cx dX6_advance_4 0 rfl ?_
      refine r_get (pc := 5) cx cf_X6 0 8 rfl (by decide) rfl wd_260 dX6_advance_5 ?_
      refine r_icmp_ge (pc := 8) (tgt := 50) cx dX6_advance_8 (by decide) (fun h3 => ?_) (fun h3 => ?_)
      · replace hf := ifp h3 hf
        exact hk0_50 _ hf
      · replace hf := ifn h3 hf
        refine r_aload_n (pc := 11) cx dX6_advance_11 0 rfl ?_
        refine r_aload_n (pc := 12) cx dX6_advance_12 0 rfl ?_
        refine r_get (pc := 13) cx cf_X6 0 9 rfl (by decide) rfl wd_261 dX6_advance_13 ?_
        replace hf := bd_of hf
        obtain ⟨r4, hc5, hf⟩ := hf
        refine r_Vi (pc := 16) (ws' := [((q 0), ob 5 [.ref (q 1), .int (Rd_filled v), .int (Rd_fault v), .int (Rd_faultPlace v), .ref (q 2), .ref (q 3), .ref (q 4), .ref (q 5), .int (Rd_limit v), .int x1, .int (Rd_token v), .int (Rd_value v), .int (Rd_place v), .int (Rd_toldRules v), .int (Rd_toldData v)]), ((q 1), aB K 700 (Rd_tape v)), ((q 2), aI K 25 (Rd_words v)), ((q 3), aI K 75 (Rd_sorts v)), ((q 4), aI K 3 (Rd_parts v)), ((q 5), aI K 64 (Rd_wantedPlaces v))]) (wc := [((q 0), ob 5 [.ref (q 1), .int (Rd_filled v), .int (Rd_fault v), .int (Rd_faultPlace v), .ref (q 2), .ref (q 3), .ref (q 4), .ref (q 5), .int (Rd_limit v), .int x1, .int (Rd_token v), .int (Rd_value v), .int (Rd_place v), .int (Rd_toldRules v), .int (Rd_toldData v)]), ((q 1), aB K 700 (Rd_tape v)), ((q 2), aI K 25 (Rd_words v)), ((q 3), aI K 75 (Rd_sorts v)), ((q 4), aI K 3 (Rd_parts v)), ((q 5), aI K 64 (Rd_wantedPlaces v))]) (nn := 6) cx [.int x1] [] (m_Rd_signAt l D K q ((Rd_tape v), (Rd_filled v), (Rd_fault v), (Rd_faultPlace v), (Rd_words v), (Rd_sorts v), (Rd_parts v), (Rd_wantedPlaces v), (Rd_limit v), x1, (Rd_token v), (Rd_value v), (Rd_place v), (Rd_toldRules v), (Rd_toldData v)) x1 hc5) (by (try simp only [cl_Rd, Rd_tape_mk, Rd_filled_mk, Rd_fault_mk, Rd_faultPlace_mk, Rd_words_mk, Rd_sorts_mk, Rd_parts_mk, Rd_wantedPlaces_mk, Rd_limit_mk, Rd_position_mk, Rd_token_mk, Rd_value_mk, Rd_place_mk, Rd_toldRules_mk, Rd_toldData_mk, List.cons_append, List.nil_append, List.append_nil]) <;> rfl) yv_X6_signAt wd_625 ⟨rfl, rfl⟩ (by decide) (fr_s (j := 0) rfl rfl rfl (fr_s (j := 1) rfl rfl rfl (fr_s (j := 2) rfl rfl rfl (fr_s (j := 3) rfl rfl rfl (fr_s (j := 4) rfl rfl rfl (fr_s (j := 5) rfl rfl rfl (fr_n))))))) rfl (by decide) 0 rfl rfl rfl (Nat.le_of_ble_eq_true rfl) dX6_advance_16 ?_
        refine r_bipush (pc := 19) cx dX6_advance_19 bp_32 ?_
        refine r_icmp_eq (pc := 21) (tgt := 37) cx dX6_advance_21 (by decide) (fun h6 => ?_) (fun h6 => ?_)
        · replace hf := ifp h6 hf
          refine r_aload_n (pc := 37) cx dX6_advance_37 0 rfl ?_
          refine r_dup (pc := 38) cx dX6_advance_38 rfl ?_
          refine r_get (pc := 39) cx cf_X6 0 9 rfl (by decide) rfl wd_261 dX6_advance_39 ?_
          refine r_iconst (pc := 42) cx dX6_advance_42 ic_1 ?_
          refine r_iadd (pc := 43) cx dX6_advance_43 ?_
          replace hf := nm_of hf
          obtain ⟨x7, ex7, hf⟩ := hf
          refine r_nm ex7 ?_
          refine r_putI (pc := 44) (ws' := [((q 0), ob 5 [.ref (q 1), .int (Rd_filled v), .int (Rd_fault v), .int (Rd_faultPlace v), .ref (q 2), .ref (q 3), .ref (q 4), .ref (q 5), .int (Rd_limit v), .int x7, .int (Rd_token v), .int (Rd_value v), .int (Rd_place v), .int (Rd_toldRules v), .int (Rd_toldData v)]), ((q 1), aB K 700 (Rd_tape v)), ((q 2), aI K 25 (Rd_words v)), ((q 3), aI K 75 (Rd_sorts v)), ((q 4), aI K 3 (Rd_parts v)), ((q 5), aI K 64 (Rd_wantedPlaces v))]) cx cf_X6 0 9 rfl (by decide) (Nat.le_of_ble_eq_true rfl) rfl pfd_I wd_261 dX6_advance_44 rfl ?_
          refine r_goto (pc := 47) (tgt := 0) cx dX6_advance_47 (by decide) ?_
          exact ih0 _ hf
        · replace hf := ifn h6 hf
          refine r_aload_n (pc := 24) cx dX6_advance_24 0 rfl ?_
          refine r_aload_n (pc := 25) cx dX6_advance_25 0 rfl ?_
          refine r_get (pc := 26) cx cf_X6 0 9 rfl (by decide) rfl wd_261 dX6_advance_26 ?_
          replace hf := bd_of hf
          obtain ⟨r8, hc9, hf⟩ := hf
          refine r_Vi (pc := 29) (ws' := [((q 0), ob 5 [.ref (q 1), .int (Rd_filled v), .int (Rd_fault v), .int (Rd_faultPlace v), .ref (q 2), .ref (q 3), .ref (q 4), .ref (q 5), .int (Rd_limit v), .int x1, .int (Rd_token v), .int (Rd_value v), .int (Rd_place v), .int (Rd_toldRules v), .int (Rd_toldData v)]), ((q 1), aB K 700 (Rd_tape v)), ((q 2), aI K 25 (Rd_words v)), ((q 3), aI K 75 (Rd_sorts v)), ((q 4), aI K 3 (Rd_parts v)), ((q 5), aI K 64 (Rd_wantedPlaces v))]) (wc := [((q 0), ob 5 [.ref (q 1), .int (Rd_filled v), .int (Rd_fault v), .int (Rd_faultPlace v), .ref (q 2), .ref (q 3), .ref (q 4), .ref (q 5), .int (Rd_limit v), .int x1, .int (Rd_token v), .int (Rd_value v), .int (Rd_place v), .int (Rd_toldRules v), .int (Rd_toldData v)]), ((q 1), aB K 700 (Rd_tape v)), ((q 2), aI K 25 (Rd_words v)), ((q 3), aI K 75 (Rd_sorts v)), ((q 4), aI K 3 (Rd_parts v)), ((q 5), aI K 64 (Rd_wantedPlaces v))]) (nn := 6) cx [.int x1] [] (m_Rd_signAt l D K q ((Rd_tape v), (Rd_filled v), (Rd_fault v), (Rd_faultPlace v), (Rd_words v), (Rd_sorts v), (Rd_parts v), (Rd_wantedPlaces v), (Rd_limit v), x1, (Rd_token v), (Rd_value v), (Rd_place v), (Rd_toldRules v), (Rd_toldData v)) x1 hc9) (by (try simp only [cl_Rd, Rd_tape_mk, Rd_filled_mk, Rd_fault_mk, Rd_faultPlace_mk, Rd_words_mk, Rd_sorts_mk, Rd_parts_mk, Rd_wantedPlaces_mk, Rd_limit_mk, Rd_position_mk, Rd_token_mk, Rd_value_mk, Rd_place_mk, Rd_toldRules_mk, Rd_toldData_mk, List.cons_append, List.nil_append, List.append_nil]) <;> rfl) yv_X6_signAt wd_625 ⟨rfl, rfl⟩ (by decide) (fr_s (j := 0) rfl rfl rfl (fr_s (j := 1) rfl rfl rfl (fr_s (j := 2) rfl rfl rfl (fr_s (j := 3) rfl rfl rfl (fr_s (j := 4) rfl rfl rfl (fr_s (j := 5) rfl rfl rfl (fr_n))))))) rfl (by decide) 0 rfl rfl rfl (Nat.le_of_ble_eq_true rfl) dX6_advance_29 ?_
          refine r_bipush (pc := 32) cx dX6_advance_32 bp_10 ?_
          refine r_icmp_ne (pc := 34) (tgt := 50) cx dX6_advance_34 (by decide) (fun h10 => ?_) (fun h10 => ?_)
          · replace hf := ifn h10 hf
            exact hk0_50 _ hf
          · replace hf := ifp h10 hf
            refine r_aload_n (pc := 37) cx dX6_advance_37 0 rfl ?_
            refine r_dup (pc := 38) cx dX6_advance_38 rfl ?_
            refine r_get (pc := 39) cx cf_X6 0 9 rfl (by decide) rfl wd_261 dX6_advance_39 ?_
            refine r_iconst (pc := 42) cx dX6_advance_42 ic_1 ?_
            refine r_iadd (pc := 43) cx dX6_advance_43 ?_
            replace hf := nm_of hf
            obtain ⟨x11, ex11, hf⟩ := hf
            refine r_nm ex11 ?_
            refine r_putI (pc := 44) (ws' := [((q 0), ob 5 [.ref (q 1), .int (Rd_filled v), .int (Rd_fault v), .int (Rd_faultPlace v), .ref (q 2), .ref (q 3), .ref (q 4), .ref (q 5), .int (Rd_limit v), .int x11, .int (Rd_token v), .int (Rd_value v), .int (Rd_place v), .int (Rd_toldRules v), .int (Rd_toldData v)]), ((q 1), aB K 700 (Rd_tape v)), ((q 2), aI K 25 (Rd_words v)), ((q 3), aI K 75 (Rd_sorts v)), ((q 4), aI K 3 (Rd_parts v)), ((q 5), aI K 64 (Rd_wantedPlaces v))]) cx cf_X6 0 9 rfl (by decide) (Nat.le_of_ble_eq_true rfl) rfl pfd_I wd_261 dX6_advance_44 rfl ?_
            refine r_goto (pc := 47) (tgt := 0) cx dX6_advance_47 (by decide) ?_
            exact ih0 _ hf
  refine hL0 _ (fun x2 hf => ?_) _ _ hf
  refine r_aload_n (pc := 50) cx dX6_advance_50 0 rfl ?_
  refine r_aload_n (pc := 51) cx dX6_advance_51 0 rfl ?_
  refine r_get (pc := 52) cx cf_X6 0 9 rfl (by decide) rfl wd_261 dX6_advance_52 ?_
  refine r_putI (pc := 55) (ws' := [((q 0), ob 5 [.ref (q 1), .int (Rd_filled v), .int (Rd_fault v), .int (Rd_faultPlace v), .ref (q 2), .ref (q 3), .ref (q 4), .ref (q 5), .int (Rd_limit v), .int x2, .int (Rd_token v), .int (Rd_value v), .int x2, .int (Rd_toldRules v), .int (Rd_toldData v)]), ((q 1), aB K 700 (Rd_tape v)), ((q 2), aI K 25 (Rd_words v)), ((q 3), aI K 75 (Rd_sorts v)), ((q 4), aI K 3 (Rd_parts v)), ((q 5), aI K 64 (Rd_wantedPlaces v))]) cx cf_X6 0 12 rfl (by decide) (Nat.le_of_ble_eq_true rfl) rfl pfd_I wd_264 dX6_advance_55 rfl ?_
  refine r_aload_n (pc := 58) cx dX6_advance_58 0 rfl ?_
  refine r_aload_n (pc := 59) cx dX6_advance_59 0 rfl ?_
  refine r_get (pc := 60) cx cf_X6 0 9 rfl (by decide) rfl wd_261 dX6_advance_60 ?_
  replace hf := bd_of hf
  obtain ⟨r12, hc13, hf⟩ := hf
  refine r_Vi (pc := 63) (ws' := [((q 0), ob 5 [.ref (q 1), .int (Rd_filled v), .int (Rd_fault v), .int (Rd_faultPlace v), .ref (q 2), .ref (q 3), .ref (q 4), .ref (q 5), .int (Rd_limit v), .int x2, .int (Rd_token v), .int (Rd_value v), .int x2, .int (Rd_toldRules v), .int (Rd_toldData v)]), ((q 1), aB K 700 (Rd_tape v)), ((q 2), aI K 25 (Rd_words v)), ((q 3), aI K 75 (Rd_sorts v)), ((q 4), aI K 3 (Rd_parts v)), ((q 5), aI K 64 (Rd_wantedPlaces v))]) (wc := [((q 0), ob 5 [.ref (q 1), .int (Rd_filled v), .int (Rd_fault v), .int (Rd_faultPlace v), .ref (q 2), .ref (q 3), .ref (q 4), .ref (q 5), .int (Rd_limit v), .int x2, .int (Rd_token v), .int (Rd_value v), .int x2, .int (Rd_toldRules v), .int (Rd_toldData v)]), ((q 1), aB K 700 (Rd_tape v)), ((q 2), aI K 25 (Rd_words v)), ((q 3), aI K 75 (Rd_sorts v)), ((q 4), aI K 3 (Rd_parts v)), ((q 5), aI K 64 (Rd_wantedPlaces v))]) (nn := 6) cx [.int x2] [] (m_Rd_signAt l D K q ((Rd_tape v), (Rd_filled v), (Rd_fault v), (Rd_faultPlace v), (Rd_words v), (Rd_sorts v), (Rd_parts v), (Rd_wantedPlaces v), (Rd_limit v), x2, (Rd_token v), (Rd_value v), x2, (Rd_toldRules v), (Rd_toldData v)) x2 hc13) (by (try simp only [cl_Rd, Rd_tape_mk, Rd_filled_mk, Rd_fault_mk, Rd_faultPlace_mk, Rd_words_mk, Rd_sorts_mk, Rd_parts_mk, Rd_wantedPlaces_mk, Rd_limit_mk, Rd_position_mk, Rd_token_mk, Rd_value_mk, Rd_place_mk, Rd_toldRules_mk, Rd_toldData_mk, List.cons_append, List.nil_append, List.append_nil]) <;> rfl) yv_X6_signAt wd_625 ⟨rfl, rfl⟩ (by decide) (fr_s (j := 0) rfl rfl rfl (fr_s (j := 1) rfl rfl rfl (fr_s (j := 2) rfl rfl rfl (fr_s (j := 3) rfl rfl rfl (fr_s (j := 4) rfl rfl rfl (fr_s (j := 5) rfl rfl rfl (fr_n))))))) rfl (by decide) 0 rfl rfl rfl (Nat.le_of_ble_eq_true rfl) dX6_advance_63 ?_
  refine r_istore_n (pc := 66) (loc' := [(1, .int r12), (0, .ref (q 0))]) cx dX6_advance_66 rfl (by decide) rfl ?_
  refine r_iload_n (pc := 67) cx dX6_advance_67 0 rfl ?_
  refine r_iconst (pc := 68) cx dX6_advance_68 ic_m1 ?_
  refine r_icmp_ne (pc := 69) (tgt := 80) cx dX6_advance_69 (by decide) (fun h14 => ?_) (fun h14 => ?_)
  · replace hf := ifn h14 hf
    refine r_iload_n (pc := 80) cx dX6_advance_80 0 rfl ?_
    refine r_bipush (pc := 81) cx dX6_advance_81 bp_97 ?_
    refine r_icmp_lt (pc := 83) (tgt := 99) cx dX6_advance_83 (by decide) (fun h15 => ?_) (fun h15 => ?_)
    · replace hf := ifp h15 hf
      refine r_iload_n (pc := 99) cx dX6_advance_99 0 rfl ?_
      refine r_bipush (pc := 100) cx dX6_advance_100 bp_48 ?_
      refine r_icmp_lt (pc := 102) (tgt := 118) cx dX6_advance_102 (by decide) (fun h16 => ?_) (fun h16 => ?_)
      · replace hf := ifp h16 hf
        refine r_aload_n (pc := 118) cx dX6_advance_118 1 rfl ?_
        refine r_iload_n (pc := 119) cx dX6_advance_119 0 rfl ?_
        refine r_bipush (pc := 120) cx dX6_advance_120 bp_59 ?_
        replace hf := nm_of hf
        obtain ⟨J18, eJ18, hf⟩ := hf
        have hJ18 : ∀ (y17 : Int32), J18 y17 = some o_v → WW p l e rm_Rd_advance s m args below meth c D A 2 0 0 (MQ below (QV D K A (cl_Rd K q o_v)) args s 0 0 A) ([((q 0), ob 5 [.ref (q 1), .int (Rd_filled v), .int (Rd_fault v), .int (Rd_faultPlace v), .ref (q 2), .ref (q 3), .ref (q 4), .ref (q 5), .int (Rd_limit v), .int x2, .int (Rd_token v), .int (Rd_value v), .int x2, .int (Rd_toldRules v), .int (Rd_toldData v)]), ((q 1), aB K 700 (Rd_tape v)), ((q 2), aI K 25 (Rd_words v)), ((q 3), aI K 75 (Rd_sorts v)), ((q 4), aI K 3 (Rd_parts v)), ((q 5), aI K 64 (Rd_wantedPlaces v))]) ([(0, .ref (q 0))]) ([.int y17, .ref (q 0)]) 130 := by
          clear hf
          intro y17 hf
          rw [eJ18] at hf
          refine r_putI (pc := 130) (ws' := [((q 0), ob 5 [.ref (q 1), .int (Rd_filled v), .int (Rd_fault v), .int (Rd_faultPlace v), .ref (q 2), .ref (q 3), .ref (q 4), .ref (q 5), .int (Rd_limit v), .int x2, .int y17, .int (Rd_value v), .int x2, .int (Rd_toldRules v), .int (Rd_toldData v)]), ((q 1), aB K 700 (Rd_tape v)), ((q 2), aI K 25 (Rd_words v)), ((q 3), aI K 75 (Rd_sorts v)), ((q 4), aI K 3 (Rd_parts v)), ((q 5), aI K 64 (Rd_wantedPlaces v))]) cx cf_X6 0 10 rfl (by decide) (Nat.le_of_ble_eq_true rfl) rfl pfd_I wd_262 dX6_advance_130 rfl ?_
          refine r_aload_n (pc := 133) cx dX6_advance_133 0 rfl ?_
          refine r_dup (pc := 134) cx dX6_advance_134 rfl ?_
          refine r_get (pc := 135) cx cf_X6 0 9 rfl (by decide) rfl wd_261 dX6_advance_135 ?_
          refine r_iconst (pc := 138) cx dX6_advance_138 ic_1 ?_
          refine r_iadd (pc := 139) cx dX6_advance_139 ?_
          replace hf := nm_of hf
          obtain ⟨x19, ex19, hf⟩ := hf
          refine r_nm ex19 ?_
          refine r_putI (pc := 140) (ws' := [((q 0), ob 5 [.ref (q 1), .int (Rd_filled v), .int (Rd_fault v), .int (Rd_faultPlace v), .ref (q 2), .ref (q 3), .ref (q 4), .ref (q 5), .int (Rd_limit v), .int x19, .int y17, .int (Rd_value v), .int x2, .int (Rd_toldRules v), .int (Rd_toldData v)]), ((q 1), aB K 700 (Rd_tape v)), ((q 2), aI K 25 (Rd_words v)), ((q 3), aI K 75 (Rd_sorts v)), ((q 4), aI K 3 (Rd_parts v)), ((q 5), aI K 64 (Rd_wantedPlaces v))]) cx cf_X6 0 9 rfl (by decide) (Nat.le_of_ble_eq_true rfl) rfl pfd_I wd_261 dX6_advance_140 rfl ?_
          have hi := inj1 hf
          exact r_vret (pc := 143) cx (by rw [← hi]; (try simp only [cl_Rd, Rd_tape_mk, Rd_filled_mk, Rd_fault_mk, Rd_faultPlace_mk, Rd_words_mk, Rd_sorts_mk, Rd_parts_mk, Rd_wantedPlaces_mk, Rd_limit_mk, Rd_position_mk, Rd_token_mk, Rd_value_mk, Rd_place_mk, Rd_toldRules_mk, Rd_toldData_mk, List.cons_append, List.nil_append, List.append_nil]) <;> rfl) dX6_advance_143
        refine r_icmp_ne (pc := 122) (tgt := 129) cx dX6_advance_122 (by decide) (fun h20 => ?_) (fun h20 => ?_)
        · replace hf := ifn h20 hf
          refine r_iconst (pc := 129) cx dX6_advance_129 ic_4 ?_
          refine r_loc (loc' := [(0, .ref (q 0))]) [1] rfl ?_
          exact hJ18 _ hf
        · replace hf := ifp h20 hf
          refine r_iconst (pc := 125) cx dX6_advance_125 ic_3 ?_
          refine r_goto (pc := 126) (tgt := 130) cx dX6_advance_126 (by decide) ?_
          refine r_loc (loc' := [(0, .ref (q 0))]) [1] rfl ?_
          exact hJ18 _ hf
      · replace hf := ifn h16 hf
        refine r_iload_n (pc := 105) cx dX6_advance_105 0 rfl ?_
        refine r_bipush (pc := 106) cx dX6_advance_106 bp_57 ?_
        refine r_icmp_gt (pc := 108) (tgt := 118) cx dX6_advance_108 (by decide) (fun h21 => ?_) (fun h21 => ?_)
        · replace hf := ifp h21 hf
          refine r_aload_n (pc := 118) cx dX6_advance_118 1 rfl ?_
          refine r_iload_n (pc := 119) cx dX6_advance_119 0 rfl ?_
          refine r_bipush (pc := 120) cx dX6_advance_120 bp_59 ?_
          replace hf := nm_of hf
          obtain ⟨J23, eJ23, hf⟩ := hf
          have hJ23 : ∀ (y22 : Int32), J23 y22 = some o_v → WW p l e rm_Rd_advance s m args below meth c D A 2 0 0 (MQ below (QV D K A (cl_Rd K q o_v)) args s 0 0 A) ([((q 0), ob 5 [.ref (q 1), .int (Rd_filled v), .int (Rd_fault v), .int (Rd_faultPlace v), .ref (q 2), .ref (q 3), .ref (q 4), .ref (q 5), .int (Rd_limit v), .int x2, .int (Rd_token v), .int (Rd_value v), .int x2, .int (Rd_toldRules v), .int (Rd_toldData v)]), ((q 1), aB K 700 (Rd_tape v)), ((q 2), aI K 25 (Rd_words v)), ((q 3), aI K 75 (Rd_sorts v)), ((q 4), aI K 3 (Rd_parts v)), ((q 5), aI K 64 (Rd_wantedPlaces v))]) ([(0, .ref (q 0))]) ([.int y22, .ref (q 0)]) 130 := by
            clear hf
            intro y22 hf
            rw [eJ23] at hf
            refine r_putI (pc := 130) (ws' := [((q 0), ob 5 [.ref (q 1), .int (Rd_filled v), .int (Rd_fault v), .int (Rd_faultPlace v), .ref (q 2), .ref (q 3), .ref (q 4), .ref (q 5), .int (Rd_limit v), .int x2, .int y22, .int (Rd_value v), .int x2, .int (Rd_toldRules v), .int (Rd_toldData v)]), ((q 1), aB K 700 (Rd_tape v)), ((q 2), aI K 25 (Rd_words v)), ((q 3), aI K 75 (Rd_sorts v)), ((q 4), aI K 3 (Rd_parts v)), ((q 5), aI K 64 (Rd_wantedPlaces v))]) cx cf_X6 0 10 rfl (by decide) (Nat.le_of_ble_eq_true rfl) rfl pfd_I wd_262 dX6_advance_130 rfl ?_
            refine r_aload_n (pc := 133) cx dX6_advance_133 0 rfl ?_
            refine r_dup (pc := 134) cx dX6_advance_134 rfl ?_
            refine r_get (pc := 135) cx cf_X6 0 9 rfl (by decide) rfl wd_261 dX6_advance_135 ?_
            refine r_iconst (pc := 138) cx dX6_advance_138 ic_1 ?_
            refine r_iadd (pc := 139) cx dX6_advance_139 ?_
            replace hf := nm_of hf
            obtain ⟨x24, ex24, hf⟩ := hf
            refine r_nm ex24 ?_
            refine r_putI (pc := 140) (ws' := [((q 0), ob 5 [.ref (q 1), .int (Rd_filled v), .int (Rd_fault v), .int (Rd_faultPlace v), .ref (q 2), .ref (q 3), .ref (q 4), .ref (q 5), .int (Rd_limit v), .int x24, .int y22, .int (Rd_value v), .int x2, .int (Rd_toldRules v), .int (Rd_toldData v)]), ((q 1), aB K 700 (Rd_tape v)), ((q 2), aI K 25 (Rd_words v)), ((q 3), aI K 75 (Rd_sorts v)), ((q 4), aI K 3 (Rd_parts v)), ((q 5), aI K 64 (Rd_wantedPlaces v))]) cx cf_X6 0 9 rfl (by decide) (Nat.le_of_ble_eq_true rfl) rfl pfd_I wd_261 dX6_advance_140 rfl ?_
            have hi := inj1 hf
            exact r_vret (pc := 143) cx (by rw [← hi]; (try simp only [cl_Rd, Rd_tape_mk, Rd_filled_mk, Rd_fault_mk, Rd_faultPlace_mk, Rd_words_mk, Rd_sorts_mk, Rd_parts_mk, Rd_wantedPlaces_mk, Rd_limit_mk, Rd_position_mk, Rd_token_mk, Rd_value_mk, Rd_place_mk, Rd_toldRules_mk, Rd_toldData_mk, List.cons_append, List.nil_append, List.append_nil]) <;> rfl) dX6_advance_143
          refine r_icmp_ne (pc := 122) (tgt := 129) cx dX6_advance_122 (by decide) (fun h25 => ?_) (fun h25 => ?_)
          · replace hf := ifn h25 hf
            refine r_iconst (pc := 129) cx dX6_advance_129 ic_4 ?_
            refine r_loc (loc' := [(0, .ref (q 0))]) [1] rfl ?_
            exact hJ23 _ hf
          · replace hf := ifp h25 hf
            refine r_iconst (pc := 125) cx dX6_advance_125 ic_3 ?_
            refine r_goto (pc := 126) (tgt := 130) cx dX6_advance_126 (by decide) ?_
            refine r_loc (loc' := [(0, .ref (q 0))]) [1] rfl ?_
            exact hJ23 _ hf
        · replace hf := ifn h21 hf
          refine r_aload_n (pc := 111) cx dX6_advance_111 1 rfl ?_
          replace hf := bd_of hf
          obtain ⟨v26, hc27, hf⟩ := hf
          refine r_Vv (pc := 112) (ws' := [((q 0), ob 5 [.ref (q 1), .int (Rd_filled v26), .int (Rd_fault v26), .int (Rd_faultPlace v26), .ref (q 2), .ref (q 3), .ref (q 4), .ref (q 5), .int (Rd_limit v26), .int (Rd_position v26), .int (Rd_token v26), .int (Rd_value v26), .int (Rd_place v26), .int (Rd_toldRules v26), .int (Rd_toldData v26)]), ((q 1), aB K 700 (Rd_tape v26)), ((q 2), aI K 25 (Rd_words v26)), ((q 3), aI K 75 (Rd_sorts v26)), ((q 4), aI K 3 (Rd_parts v26)), ((q 5), aI K 64 (Rd_wantedPlaces v26))]) (wc := [((q 0), ob 5 [.ref (q 1), .int (Rd_filled v), .int (Rd_fault v), .int (Rd_faultPlace v), .ref (q 2), .ref (q 3), .ref (q 4), .ref (q 5), .int (Rd_limit v), .int x2, .int (Rd_token v), .int (Rd_value v), .int x2, .int (Rd_toldRules v), .int (Rd_toldData v)]), ((q 1), aB K 700 (Rd_tape v)), ((q 2), aI K 25 (Rd_words v)), ((q 3), aI K 75 (Rd_sorts v)), ((q 4), aI K 3 (Rd_parts v)), ((q 5), aI K 64 (Rd_wantedPlaces v))]) (nn := 6) cx [] [] (m_Rd_readNumber l D K q ((Rd_tape v), (Rd_filled v), (Rd_fault v), (Rd_faultPlace v), (Rd_words v), (Rd_sorts v), (Rd_parts v), (Rd_wantedPlaces v), (Rd_limit v), x2, (Rd_token v), (Rd_value v), x2, (Rd_toldRules v), (Rd_toldData v)) hc27) (by (try simp only [cl_Rd, Rd_tape_mk, Rd_filled_mk, Rd_fault_mk, Rd_faultPlace_mk, Rd_words_mk, Rd_sorts_mk, Rd_parts_mk, Rd_wantedPlaces_mk, Rd_limit_mk, Rd_position_mk, Rd_token_mk, Rd_value_mk, Rd_place_mk, Rd_toldRules_mk, Rd_toldData_mk, List.cons_append, List.nil_append, List.append_nil]) <;> rfl) yv_X6_readNumber wd_633 ⟨rfl, rfl⟩ (by decide) (fr_s (j := 0) rfl rfl rfl (fr_s (j := 1) rfl rfl rfl (fr_s (j := 2) rfl rfl rfl (fr_s (j := 3) rfl rfl rfl (fr_s (j := 4) rfl rfl rfl (fr_s (j := 5) rfl rfl rfl (fr_n))))))) rfl (by decide) 0 rfl rfl rfl (Nat.le_of_ble_eq_true rfl) dX6_advance_112 ?_
          refine r_goto (pc := 115) (tgt := 143) cx dX6_advance_115 (by decide) ?_
          have hi := inj1 hf
          exact r_vret (pc := 143) cx (by rw [← hi]; rfl) dX6_advance_143
    · replace hf := ifn h15 hf
      refine r_iload_n (pc := 86) cx dX6_advance_86 0 rfl ?_
      refine r_bipush (pc := 87) cx dX6_advance_87 bp_122 ?_
      refine r_icmp_gt (pc := 89) (tgt := 99) cx dX6_advance_89 (by decide) (fun h28 => ?_) (fun h28 => ?_)
      · replace hf := ifp h28 hf
        refine r_iload_n (pc := 99) cx dX6_advance_99 0 rfl ?_
        refine r_bipush (pc := 100) cx dX6_advance_100 bp_48 ?_
        refine r_icmp_lt (pc := 102) (tgt := 118) cx dX6_advance_102 (by decide) (fun h29 => ?_) (fun h29 => ?_)
        · replace hf := ifp h29 hf
          refine r_aload_n (pc := 118) cx dX6_advance_118 1 rfl ?_
          refine r_iload_n (pc := 119) cx dX6_advance_119 0 rfl ?_
          refine r_bipush (pc := 120) cx dX6_advance_120 bp_59 ?_
          replace hf := nm_of hf
          obtain ⟨J31, eJ31, hf⟩ := hf
          have hJ31 : ∀ (y30 : Int32), J31 y30 = some o_v → WW p l e rm_Rd_advance s m args below meth c D A 2 0 0 (MQ below (QV D K A (cl_Rd K q o_v)) args s 0 0 A) ([((q 0), ob 5 [.ref (q 1), .int (Rd_filled v), .int (Rd_fault v), .int (Rd_faultPlace v), .ref (q 2), .ref (q 3), .ref (q 4), .ref (q 5), .int (Rd_limit v), .int x2, .int (Rd_token v), .int (Rd_value v), .int x2, .int (Rd_toldRules v), .int (Rd_toldData v)]), ((q 1), aB K 700 (Rd_tape v)), ((q 2), aI K 25 (Rd_words v)), ((q 3), aI K 75 (Rd_sorts v)), ((q 4), aI K 3 (Rd_parts v)), ((q 5), aI K 64 (Rd_wantedPlaces v))]) ([(0, .ref (q 0))]) ([.int y30, .ref (q 0)]) 130 := by
            clear hf
            intro y30 hf
            rw [eJ31] at hf
            refine r_putI (pc := 130) (ws' := [((q 0), ob 5 [.ref (q 1), .int (Rd_filled v), .int (Rd_fault v), .int (Rd_faultPlace v), .ref (q 2), .ref (q 3), .ref (q 4), .ref (q 5), .int (Rd_limit v), .int x2, .int y30, .int (Rd_value v), .int x2, .int (Rd_toldRules v), .int (Rd_toldData v)]), ((q 1), aB K 700 (Rd_tape v)), ((q 2), aI K 25 (Rd_words v)), ((q 3), aI K 75 (Rd_sorts v)), ((q 4), aI K 3 (Rd_parts v)), ((q 5), aI K 64 (Rd_wantedPlaces v))]) cx cf_X6 0 10 rfl (by decide) (Nat.le_of_ble_eq_true rfl) rfl pfd_I wd_262 dX6_advance_130 rfl ?_
            refine r_aload_n (pc := 133) cx dX6_advance_133 0 rfl ?_
            refine r_dup (pc := 134) cx dX6_advance_134 rfl ?_
            refine r_get (pc := 135) cx cf_X6 0 9 rfl (by decide) rfl wd_261 dX6_advance_135 ?_
            refine r_iconst (pc := 138) cx dX6_advance_138 ic_1 ?_
            refine r_iadd (pc := 139) cx dX6_advance_139 ?_
            replace hf := nm_of hf
            obtain ⟨x32, ex32, hf⟩ := hf
            refine r_nm ex32 ?_
            refine r_putI (pc := 140) (ws' := [((q 0), ob 5 [.ref (q 1), .int (Rd_filled v), .int (Rd_fault v), .int (Rd_faultPlace v), .ref (q 2), .ref (q 3), .ref (q 4), .ref (q 5), .int (Rd_limit v), .int x32, .int y30, .int (Rd_value v), .int x2, .int (Rd_toldRules v), .int (Rd_toldData v)]), ((q 1), aB K 700 (Rd_tape v)), ((q 2), aI K 25 (Rd_words v)), ((q 3), aI K 75 (Rd_sorts v)), ((q 4), aI K 3 (Rd_parts v)), ((q 5), aI K 64 (Rd_wantedPlaces v))]) cx cf_X6 0 9 rfl (by decide) (Nat.le_of_ble_eq_true rfl) rfl pfd_I wd_261 dX6_advance_140 rfl ?_
            have hi := inj1 hf
            exact r_vret (pc := 143) cx (by rw [← hi]; (try simp only [cl_Rd, Rd_tape_mk, Rd_filled_mk, Rd_fault_mk, Rd_faultPlace_mk, Rd_words_mk, Rd_sorts_mk, Rd_parts_mk, Rd_wantedPlaces_mk, Rd_limit_mk, Rd_position_mk, Rd_token_mk, Rd_value_mk, Rd_place_mk, Rd_toldRules_mk, Rd_toldData_mk, List.cons_append, List.nil_append, List.append_nil]) <;> rfl) dX6_advance_143
          refine r_icmp_ne (pc := 122) (tgt := 129) cx dX6_advance_122 (by decide) (fun h33 => ?_) (fun h33 => ?_)
          · replace hf := ifn h33 hf
            refine r_iconst (pc := 129) cx dX6_advance_129 ic_4 ?_
            refine r_loc (loc' := [(0, .ref (q 0))]) [1] rfl ?_
            exact hJ31 _ hf
          · replace hf := ifp h33 hf
            refine r_iconst (pc := 125) cx dX6_advance_125 ic_3 ?_
            refine r_goto (pc := 126) (tgt := 130) cx dX6_advance_126 (by decide) ?_
            refine r_loc (loc' := [(0, .ref (q 0))]) [1] rfl ?_
            exact hJ31 _ hf
        · replace hf := ifn h29 hf
          refine r_iload_n (pc := 105) cx dX6_advance_105 0 rfl ?_
          refine r_bipush (pc := 106) cx dX6_advance_106 bp_57 ?_
          refine r_icmp_gt (pc := 108) (tgt := 118) cx dX6_advance_108 (by decide) (fun h34 => ?_) (fun h34 => ?_)
          · replace hf := ifp h34 hf
            refine r_aload_n (pc := 118) cx dX6_advance_118 1 rfl ?_
            refine r_iload_n (pc := 119) cx dX6_advance_119 0 rfl ?_
            refine r_bipush (pc := 120) cx dX6_advance_120 bp_59 ?_
            replace hf := nm_of hf
            obtain ⟨J36, eJ36, hf⟩ := hf
            have hJ36 : ∀ (y35 : Int32), J36 y35 = some o_v → WW p l e rm_Rd_advance s m args below meth c D A 2 0 0 (MQ below (QV D K A (cl_Rd K q o_v)) args s 0 0 A) ([((q 0), ob 5 [.ref (q 1), .int (Rd_filled v), .int (Rd_fault v), .int (Rd_faultPlace v), .ref (q 2), .ref (q 3), .ref (q 4), .ref (q 5), .int (Rd_limit v), .int x2, .int (Rd_token v), .int (Rd_value v), .int x2, .int (Rd_toldRules v), .int (Rd_toldData v)]), ((q 1), aB K 700 (Rd_tape v)), ((q 2), aI K 25 (Rd_words v)), ((q 3), aI K 75 (Rd_sorts v)), ((q 4), aI K 3 (Rd_parts v)), ((q 5), aI K 64 (Rd_wantedPlaces v))]) ([(0, .ref (q 0))]) ([.int y35, .ref (q 0)]) 130 := by
              clear hf
              intro y35 hf
              rw [eJ36] at hf
              refine r_putI (pc := 130) (ws' := [((q 0), ob 5 [.ref (q 1), .int (Rd_filled v), .int (Rd_fault v), .int (Rd_faultPlace v), .ref (q 2), .ref (q 3), .ref (q 4), .ref (q 5), .int (Rd_limit v), .int x2, .int y35, .int (Rd_value v), .int x2, .int (Rd_toldRules v), .int (Rd_toldData v)]), ((q 1), aB K 700 (Rd_tape v)), ((q 2), aI K 25 (Rd_words v)), ((q 3), aI K 75 (Rd_sorts v)), ((q 4), aI K 3 (Rd_parts v)), ((q 5), aI K 64 (Rd_wantedPlaces v))]) cx cf_X6 0 10 rfl (by decide) (Nat.le_of_ble_eq_true rfl) rfl pfd_I wd_262 dX6_advance_130 rfl ?_
              refine r_aload_n (pc := 133) cx dX6_advance_133 0 rfl ?_
              refine r_dup (pc := 134) cx dX6_advance_134 rfl ?_
              refine r_get (pc := 135) cx cf_X6 0 9 rfl (by decide) rfl wd_261 dX6_advance_135 ?_
              refine r_iconst (pc := 138) cx dX6_advance_138 ic_1 ?_
              refine r_iadd (pc := 139) cx dX6_advance_139 ?_
              replace hf := nm_of hf
              obtain ⟨x37, ex37, hf⟩ := hf
              refine r_nm ex37 ?_
              refine r_putI (pc := 140) (ws' := [((q 0), ob 5 [.ref (q 1), .int (Rd_filled v), .int (Rd_fault v), .int (Rd_faultPlace v), .ref (q 2), .ref (q 3), .ref (q 4), .ref (q 5), .int (Rd_limit v), .int x37, .int y35, .int (Rd_value v), .int x2, .int (Rd_toldRules v), .int (Rd_toldData v)]), ((q 1), aB K 700 (Rd_tape v)), ((q 2), aI K 25 (Rd_words v)), ((q 3), aI K 75 (Rd_sorts v)), ((q 4), aI K 3 (Rd_parts v)), ((q 5), aI K 64 (Rd_wantedPlaces v))]) cx cf_X6 0 9 rfl (by decide) (Nat.le_of_ble_eq_true rfl) rfl pfd_I wd_261 dX6_advance_140 rfl ?_
              have hi := inj1 hf
              exact r_vret (pc := 143) cx (by rw [← hi]; (try simp only [cl_Rd, Rd_tape_mk, Rd_filled_mk, Rd_fault_mk, Rd_faultPlace_mk, Rd_words_mk, Rd_sorts_mk, Rd_parts_mk, Rd_wantedPlaces_mk, Rd_limit_mk, Rd_position_mk, Rd_token_mk, Rd_value_mk, Rd_place_mk, Rd_toldRules_mk, Rd_toldData_mk, List.cons_append, List.nil_append, List.append_nil]) <;> rfl) dX6_advance_143
            refine r_icmp_ne (pc := 122) (tgt := 129) cx dX6_advance_122 (by decide) (fun h38 => ?_) (fun h38 => ?_)
            · replace hf := ifn h38 hf
              refine r_iconst (pc := 129) cx dX6_advance_129 ic_4 ?_
              refine r_loc (loc' := [(0, .ref (q 0))]) [1] rfl ?_
              exact hJ36 _ hf
            · replace hf := ifp h38 hf
              refine r_iconst (pc := 125) cx dX6_advance_125 ic_3 ?_
              refine r_goto (pc := 126) (tgt := 130) cx dX6_advance_126 (by decide) ?_
              refine r_loc (loc' := [(0, .ref (q 0))]) [1] rfl ?_
              exact hJ36 _ hf
          · replace hf := ifn h34 hf
            refine r_aload_n (pc := 111) cx dX6_advance_111 1 rfl ?_
            replace hf := bd_of hf
            obtain ⟨v39, hc40, hf⟩ := hf
            refine r_Vv (pc := 112) (ws' := [((q 0), ob 5 [.ref (q 1), .int (Rd_filled v39), .int (Rd_fault v39), .int (Rd_faultPlace v39), .ref (q 2), .ref (q 3), .ref (q 4), .ref (q 5), .int (Rd_limit v39), .int (Rd_position v39), .int (Rd_token v39), .int (Rd_value v39), .int (Rd_place v39), .int (Rd_toldRules v39), .int (Rd_toldData v39)]), ((q 1), aB K 700 (Rd_tape v39)), ((q 2), aI K 25 (Rd_words v39)), ((q 3), aI K 75 (Rd_sorts v39)), ((q 4), aI K 3 (Rd_parts v39)), ((q 5), aI K 64 (Rd_wantedPlaces v39))]) (wc := [((q 0), ob 5 [.ref (q 1), .int (Rd_filled v), .int (Rd_fault v), .int (Rd_faultPlace v), .ref (q 2), .ref (q 3), .ref (q 4), .ref (q 5), .int (Rd_limit v), .int x2, .int (Rd_token v), .int (Rd_value v), .int x2, .int (Rd_toldRules v), .int (Rd_toldData v)]), ((q 1), aB K 700 (Rd_tape v)), ((q 2), aI K 25 (Rd_words v)), ((q 3), aI K 75 (Rd_sorts v)), ((q 4), aI K 3 (Rd_parts v)), ((q 5), aI K 64 (Rd_wantedPlaces v))]) (nn := 6) cx [] [] (m_Rd_readNumber l D K q ((Rd_tape v), (Rd_filled v), (Rd_fault v), (Rd_faultPlace v), (Rd_words v), (Rd_sorts v), (Rd_parts v), (Rd_wantedPlaces v), (Rd_limit v), x2, (Rd_token v), (Rd_value v), x2, (Rd_toldRules v), (Rd_toldData v)) hc40) (by (try simp only [cl_Rd, Rd_tape_mk, Rd_filled_mk, Rd_fault_mk, Rd_faultPlace_mk, Rd_words_mk, Rd_sorts_mk, Rd_parts_mk, Rd_wantedPlaces_mk, Rd_limit_mk, Rd_position_mk, Rd_token_mk, Rd_value_mk, Rd_place_mk, Rd_toldRules_mk, Rd_toldData_mk, List.cons_append, List.nil_append, List.append_nil]) <;> rfl) yv_X6_readNumber wd_633 ⟨rfl, rfl⟩ (by decide) (fr_s (j := 0) rfl rfl rfl (fr_s (j := 1) rfl rfl rfl (fr_s (j := 2) rfl rfl rfl (fr_s (j := 3) rfl rfl rfl (fr_s (j := 4) rfl rfl rfl (fr_s (j := 5) rfl rfl rfl (fr_n))))))) rfl (by decide) 0 rfl rfl rfl (Nat.le_of_ble_eq_true rfl) dX6_advance_112 ?_
            refine r_goto (pc := 115) (tgt := 143) cx dX6_advance_115 (by decide) ?_
            have hi := inj1 hf
            exact r_vret (pc := 143) cx (by rw [← hi]; rfl) dX6_advance_143
      · replace hf := ifn h28 hf
        refine r_aload_n (pc := 92) cx dX6_advance_92 1 rfl ?_
        replace hf := bd_of hf
        obtain ⟨v41, hc42, hf⟩ := hf
        refine r_Vv (pc := 93) (ws' := [((q 0), ob 5 [.ref (q 1), .int (Rd_filled v41), .int (Rd_fault v41), .int (Rd_faultPlace v41), .ref (q 2), .ref (q 3), .ref (q 4), .ref (q 5), .int (Rd_limit v41), .int (Rd_position v41), .int (Rd_token v41), .int (Rd_value v41), .int (Rd_place v41), .int (Rd_toldRules v41), .int (Rd_toldData v41)]), ((q 1), aB K 700 (Rd_tape v41)), ((q 2), aI K 25 (Rd_words v41)), ((q 3), aI K 75 (Rd_sorts v41)), ((q 4), aI K 3 (Rd_parts v41)), ((q 5), aI K 64 (Rd_wantedPlaces v41))]) (wc := [((q 0), ob 5 [.ref (q 1), .int (Rd_filled v), .int (Rd_fault v), .int (Rd_faultPlace v), .ref (q 2), .ref (q 3), .ref (q 4), .ref (q 5), .int (Rd_limit v), .int x2, .int (Rd_token v), .int (Rd_value v), .int x2, .int (Rd_toldRules v), .int (Rd_toldData v)]), ((q 1), aB K 700 (Rd_tape v)), ((q 2), aI K 25 (Rd_words v)), ((q 3), aI K 75 (Rd_sorts v)), ((q 4), aI K 3 (Rd_parts v)), ((q 5), aI K 64 (Rd_wantedPlaces v))]) (nn := 6) cx [] [] (m_Rd_readWord l D K q ((Rd_tape v), (Rd_filled v), (Rd_fault v), (Rd_faultPlace v), (Rd_words v), (Rd_sorts v), (Rd_parts v), (Rd_wantedPlaces v), (Rd_limit v), x2, (Rd_token v), (Rd_value v), x2, (Rd_toldRules v), (Rd_toldData v)) hc42) (by (try simp only [cl_Rd, Rd_tape_mk, Rd_filled_mk, Rd_fault_mk, Rd_faultPlace_mk, Rd_words_mk, Rd_sorts_mk, Rd_parts_mk, Rd_wantedPlaces_mk, Rd_limit_mk, Rd_position_mk, Rd_token_mk, Rd_value_mk, Rd_place_mk, Rd_toldRules_mk, Rd_toldData_mk, List.cons_append, List.nil_append, List.append_nil]) <;> rfl) yv_X6_readWord wd_629 ⟨rfl, rfl⟩ (by decide) (fr_s (j := 0) rfl rfl rfl (fr_s (j := 1) rfl rfl rfl (fr_s (j := 2) rfl rfl rfl (fr_s (j := 3) rfl rfl rfl (fr_s (j := 4) rfl rfl rfl (fr_s (j := 5) rfl rfl rfl (fr_n))))))) rfl (by decide) 0 rfl rfl rfl (Nat.le_of_ble_eq_true rfl) dX6_advance_93 ?_
        refine r_goto (pc := 96) (tgt := 143) cx dX6_advance_96 (by decide) ?_
        have hi := inj1 hf
        exact r_vret (pc := 143) cx (by rw [← hi]; rfl) dX6_advance_143
  · replace hf := ifp h14 hf
    refine r_aload_n (pc := 72) cx dX6_advance_72 1 rfl ?_
    refine r_iconst (pc := 73) cx dX6_advance_73 ic_0 ?_
    refine r_putI (pc := 74) (ws' := [((q 0), ob 5 [.ref (q 1), .int (Rd_filled v), .int (Rd_fault v), .int (Rd_faultPlace v), .ref (q 2), .ref (q 3), .ref (q 4), .ref (q 5), .int (Rd_limit v), .int x2, .int (0 : Int32), .int (Rd_value v), .int x2, .int (Rd_toldRules v), .int (Rd_toldData v)]), ((q 1), aB K 700 (Rd_tape v)), ((q 2), aI K 25 (Rd_words v)), ((q 3), aI K 75 (Rd_sorts v)), ((q 4), aI K 3 (Rd_parts v)), ((q 5), aI K 64 (Rd_wantedPlaces v))]) cx cf_X6 0 10 rfl (by decide) (Nat.le_of_ble_eq_true rfl) rfl pfd_I wd_262 dX6_advance_74 rfl ?_
    refine r_goto (pc := 77) (tgt := 143) cx dX6_advance_77 (by decide) ?_
    have hi := inj1 hf
    exact r_vret (pc := 143) cx (by rw [← hi]; (try simp only [cl_Rd, Rd_tape_mk, Rd_filled_mk, Rd_fault_mk, Rd_faultPlace_mk, Rd_words_mk, Rd_sorts_mk, Rd_parts_mk, Rd_wantedPlaces_mk, Rd_limit_mk, Rd_position_mk, Rd_token_mk, Rd_value_mk, Rd_place_mk, Rd_toldRules_mk, Rd_toldData_mk, List.cons_append, List.nil_append, List.append_nil]) <;> rfl) dX6_advance_143
theorem yv_X6_advance : YV yX6_advance cX6_advance 2 (none) 0 := ⟨⟨by decide +kernel, by decide +kernel, by decide +kernel⟩, wd_624, wd_90, wd_623, wd_1⟩
