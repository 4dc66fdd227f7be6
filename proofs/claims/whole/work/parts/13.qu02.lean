abbrev rm_Qu_loadPart : Room := { frames := 0, cells := 0, slots := 0, locals := 0 }
set_option maxRecDepth 100000 in
set_option maxHeartbeats 4000000 in
theorem m_Qu_loadPart (l : Launch) (D : va_G) (K : Nat → ClassId) (q : Nat → Nat) (v : T_Qu) (a1 : Int32) (a2 : Int32) {r_ : Int32} (hf : f_Qu_loadPart v a1 a2 = some r_) : MI l yX5_loadPart cX5_loadPart 4 (some .int) rm_Qu_loadPart D K [.ref (q 0), .int a1, .int a2] (cl_Qu K q v) r_ (cl_Qu K q v) := by
  refine MI_of (loc0 := [(0, .ref (q 0)), (1, .int a1), (2, .int a2)]) (by decide +kernel) rfl (Nat.le_of_ble_eq_true rfl) ?_
  intro p e s m args below meth c A cx
  unfold f_Qu_loadPart at hf
  refine r_ws (ws' := [((q 0), ob 4 [.ref (q 1), .ref (q 2), .ref (q 3), .ref (q 4), .ref (q 5), .ref (q 6), .ref (q 7), .int (Qu_firstLoad v), .int (Qu_loads v), .int (Qu_firstBranch v), .int (Qu_branches v), .int (Qu_held v), .int (Qu_comparedHeld v)]), ((q 1), aI K 8 (Qu_loadAddress v)), ((q 2), aI K 8 (Qu_loadWord v)), ((q 3), aI K 8 (Qu_branch v)), ((q 4), aI K 8 (Qu_heldAddress v)), ((q 5), aI K 8 (Qu_heldWord v)), ((q 6), aI K 8 (Qu_besideAddress v)), ((q 7), aI K 8 (Qu_besideWord v))]) rfl ?_
  refine r_iload_n (pc := 0) cx dX5_loadPart_0 1 rfl ?_
  refine r_if_lt (pc := 1) (tgt := 12) cx dX5_loadPart_1 (by decide) (fun h1 => ?_) (fun h1 => ?_)
  · replace hf := ifp h1 hf
    refine r_iconst (pc := 12) cx dX5_loadPart_12 ic_0 ?_
    have hi := inj1 hf
    exact r_iret (pc := 13) cx hi rfl dX5_loadPart_13
  · replace hf := ifn h1 hf
    refine r_iload_n (pc := 4) cx dX5_loadPart_4 1 rfl ?_
    refine r_aload_n (pc := 5) cx dX5_loadPart_5 0 rfl ?_
    refine r_get (pc := 6) cx cf_X5 0 8 rfl (by decide) rfl wd_353 dX5_loadPart_6 ?_
    refine r_icmp_lt (pc := 9) (tgt := 14) cx dX5_loadPart_9 (by decide) (fun h2 => ?_) (fun h2 => ?_)
    · replace hf := ifp h2 hf
      refine r_aload_n (pc := 14) cx dX5_loadPart_14 0 rfl ?_
      refine r_get (pc := 15) cx cf_X5 0 7 rfl (by decide) rfl wd_352 dX5_loadPart_15 ?_
      refine r_iload_n (pc := 18) cx dX5_loadPart_18 1 rfl ?_
      refine r_iadd (pc := 19) cx dX5_loadPart_19 ?_
      refine r_bipush (pc := 20) cx dX5_loadPart_20 bp_7 ?_
      refine r_iand (pc := 22) cx dX5_loadPart_22 ?_
      replace hf := nm_of hf
      obtain ⟨x3, ex3, hf⟩ := hf
      refine r_nm ex3 ?_
      refine r_istore_n (pc := 23) (loc' := [(3, .int x3), (0, .ref (q 0)), (1, .int a1), (2, .int a2)]) cx dX5_loadPart_23 rfl (by decide) rfl ?_
      refine r_iload_n (pc := 24) cx dX5_loadPart_24 3 rfl ?_
      refine r_if_ne (pc := 25) (tgt := 35) cx dX5_loadPart_25 (by decide) (fun h4 => ?_) (fun h4 => ?_)
      · replace hf := ifn h4 hf
        refine r_iload_n (pc := 35) cx dX5_loadPart_35 3 rfl ?_
        refine r_iconst (pc := 36) cx dX5_loadPart_36 ic_1 ?_
        refine r_icmp_ne (pc := 37) (tgt := 49) cx dX5_loadPart_37 (by decide) (fun h5 => ?_) (fun h5 => ?_)
        · replace hf := ifn h5 hf
          refine r_iconst (pc := 49) cx dX5_loadPart_49 ic_0 ?_
          have hi := inj1 hf
          exact r_iret (pc := 50) cx hi rfl dX5_loadPart_50
        · replace hf := ifp h5 hf
          refine r_aload_n (pc := 40) cx dX5_loadPart_40 1 rfl ?_
          refine r_get (pc := 41) cx cf_X5 0 1 rfl (by decide) rfl wd_344 dX5_loadPart_41 ?_
          refine r_iload_n (pc := 44) cx dX5_loadPart_44 0 rfl ?_
          refine r_iald (pc := 45) cx 2 rfl (by rw [ex3]; exact ix_and7 _) dX5_loadPart_45 ?_
          refine r_goto (pc := 46) (tgt := 50) cx dX5_loadPart_46 (by decide) ?_
          have hi := inj1 hf
          exact r_iret (pc := 50) cx hi rfl dX5_loadPart_50
      · replace hf := ifp h4 hf
        refine r_aload_n (pc := 28) cx dX5_loadPart_28 1 rfl ?_
        refine r_get (pc := 29) cx cf_X5 0 0 rfl (by decide) rfl wd_343 dX5_loadPart_29 ?_
        refine r_iload_n (pc := 32) cx dX5_loadPart_32 0 rfl ?_
        refine r_iald (pc := 33) cx 1 rfl (by rw [ex3]; exact ix_and7 _) dX5_loadPart_33 ?_
        have hi := inj1 hf
        exact r_iret (pc := 34) cx hi rfl dX5_loadPart_34
    · replace hf := ifn h2 hf
      refine r_iconst (pc := 12) cx dX5_loadPart_12 ic_0 ?_
      have hi := inj1 hf
      exact r_iret (pc := 13) cx hi rfl dX5_loadPart_13
theorem yv_X5_loadPart : YV yX5_loadPart cX5_loadPart 4 (some .int) 2 := ⟨⟨by decide +kernel, by decide +kernel, by decide +kernel⟩, wd_976, wd_97, wd_974, wd_975⟩
abbrev rm_Qu_branchPart : Room := { frames := 0, cells := 0, slots := 0, locals := 0 }
set_option maxRecDepth 100000 in
set_option maxHeartbeats 4000000 in
theorem m_Qu_branchPart (l : Launch) (D : va_G) (K : Nat → ClassId) (q : Nat → Nat) (v : T_Qu) (a1 : Int32) (a2 : Int32) {r_ : Int32} (hf : f_Qu_branchPart v a1 a2 = some r_) : MI l yX5_branchPart cX5_branchPart 3 (some .int) rm_Qu_branchPart D K [.ref (q 0), .int a1, .int a2] (cl_Qu K q v) r_ (cl_Qu K q v) := by
  refine MI_of (loc0 := [(0, .ref (q 0)), (1, .int a1), (2, .int a2)]) (by decide +kernel) rfl (Nat.le_of_ble_eq_true rfl) ?_
  intro p e s m args below meth c A cx
  unfold f_Qu_branchPart at hf
  refine r_ws (ws' := [((q 0), ob 4 [.ref (q 1), .ref (q 2), .ref (q 3), .ref (q 4), .ref (q 5), .ref (q 6), .ref (q 7), .int (Qu_firstLoad v), .int (Qu_loads v), .int (Qu_firstBranch v), .int (Qu_branches v), .int (Qu_held v), .int (Qu_comparedHeld v)]), ((q 1), aI K 8 (Qu_loadAddress v)), ((q 2), aI K 8 (Qu_loadWord v)), ((q 3), aI K 8 (Qu_branch v)), ((q 4), aI K 8 (Qu_heldAddress v)), ((q 5), aI K 8 (Qu_heldWord v)), ((q 6), aI K 8 (Qu_besideAddress v)), ((q 7), aI K 8 (Qu_besideWord v))]) rfl ?_
  refine r_iload_n (pc := 0) cx dX5_branchPart_0 1 rfl ?_
  refine r_if_lt (pc := 1) (tgt := 16) cx dX5_branchPart_1 (by decide) (fun h1 => ?_) (fun h1 => ?_)
  · replace hf := ifp h1 hf
    refine r_iconst (pc := 16) cx dX5_branchPart_16 ic_0 ?_
    refine r_goto (pc := 17) (tgt := 34) cx dX5_branchPart_17 (by decide) ?_
    have hi := inj1 hf
    exact r_iret (pc := 34) cx hi rfl dX5_branchPart_34
  · replace hf := ifn h1 hf
    refine r_iload_n (pc := 4) cx dX5_branchPart_4 1 rfl ?_
    refine r_aload_n (pc := 5) cx dX5_branchPart_5 0 rfl ?_
    refine r_get (pc := 6) cx cf_X5 0 10 rfl (by decide) rfl wd_357 dX5_branchPart_6 ?_
    refine r_icmp_ge (pc := 9) (tgt := 16) cx dX5_branchPart_9 (by decide) (fun h2 => ?_) (fun h2 => ?_)
    · replace hf := ifp h2 hf
      refine r_iconst (pc := 16) cx dX5_branchPart_16 ic_0 ?_
      refine r_goto (pc := 17) (tgt := 34) cx dX5_branchPart_17 (by decide) ?_
      have hi := inj1 hf
      exact r_iret (pc := 34) cx hi rfl dX5_branchPart_34
    · replace hf := ifn h2 hf
      refine r_iload_n (pc := 12) cx dX5_branchPart_12 2 rfl ?_
      refine r_if_eq (pc := 13) (tgt := 20) cx dX5_branchPart_13 (by decide) (fun h3 => ?_) (fun h3 => ?_)
      · replace hf := ifp h3 hf
        refine r_aload_n (pc := 20) cx dX5_branchPart_20 0 rfl ?_
        refine r_get (pc := 21) cx cf_X5 0 2 rfl (by decide) rfl wd_345 dX5_branchPart_21 ?_
        refine r_aload_n (pc := 24) cx dX5_branchPart_24 0 rfl ?_
        refine r_get (pc := 25) cx cf_X5 0 9 rfl (by decide) rfl wd_356 dX5_branchPart_25 ?_
        refine r_iload_n (pc := 28) cx dX5_branchPart_28 1 rfl ?_
        refine r_iadd (pc := 29) cx dX5_branchPart_29 ?_
        refine r_bipush (pc := 30) cx dX5_branchPart_30 bp_7 ?_
        refine r_iand (pc := 32) cx dX5_branchPart_32 ?_
        refine r_iald (pc := 33) cx 3 rfl (ix_and7 _) dX5_branchPart_33 ?_
        have hi := inj1 hf
        exact r_iret (pc := 34) cx hi rfl dX5_branchPart_34
      · replace hf := ifn h3 hf
        refine r_iconst (pc := 16) cx dX5_branchPart_16 ic_0 ?_
        refine r_goto (pc := 17) (tgt := 34) cx dX5_branchPart_17 (by decide) ?_
        have hi := inj1 hf
        exact r_iret (pc := 34) cx hi rfl dX5_branchPart_34
theorem yv_X5_branchPart : YV yX5_branchPart cX5_branchPart 3 (some .int) 2 := ⟨⟨by decide +kernel, by decide +kernel, by decide +kernel⟩, wd_980, wd_97, wd_978, wd_979⟩
abbrev rm_Qu_heldPart : Room := { frames := 0, cells := 0, slots := 0, locals := 0 }
set_option maxRecDepth 100000 in
set_option maxHeartbeats 4000000 in
theorem m_Qu_heldPart (l : Launch) (D : va_G) (K : Nat → ClassId) (q : Nat → Nat) (v : T_Qu) (a1 : Int32) (a2 : Int32) {r_ : Int32} (hf : f_Qu_heldPart v a1 a2 = some r_) : MI l yX5_heldPart cX5_heldPart 4 (some .int) rm_Qu_heldPart D K [.ref (q 0), .int a1, .int a2] (cl_Qu K q v) r_ (cl_Qu K q v) := by
  refine MI_of (loc0 := [(0, .ref (q 0)), (1, .int a1), (2, .int a2)]) (by decide +kernel) rfl (Nat.le_of_ble_eq_true rfl) ?_
  intro p e s m args below meth c A cx
  unfold f_Qu_heldPart at hf
  refine r_ws (ws' := [((q 0), ob 4 [.ref (q 1), .ref (q 2), .ref (q 3), .ref (q 4), .ref (q 5), .ref (q 6), .ref (q 7), .int (Qu_firstLoad v), .int (Qu_loads v), .int (Qu_firstBranch v), .int (Qu_branches v), .int (Qu_held v), .int (Qu_comparedHeld v)]), ((q 1), aI K 8 (Qu_loadAddress v)), ((q 2), aI K 8 (Qu_loadWord v)), ((q 3), aI K 8 (Qu_branch v)), ((q 4), aI K 8 (Qu_heldAddress v)), ((q 5), aI K 8 (Qu_heldWord v)), ((q 6), aI K 8 (Qu_besideAddress v)), ((q 7), aI K 8 (Qu_besideWord v))]) rfl ?_
  refine r_iload_n (pc := 0) cx dX5_heldPart_0 1 rfl ?_
  refine r_if_lt (pc := 1) (tgt := 18) cx dX5_heldPart_1 (by decide) (fun h1 => ?_) (fun h1 => ?_)
  · replace hf := ifp h1 hf
    refine r_iconst (pc := 18) cx dX5_heldPart_18 ic_0 ?_
    have hi := inj1 hf
    exact r_iret (pc := 19) cx hi rfl dX5_heldPart_19
  · replace hf := ifn h1 hf
    refine r_iload_n (pc := 4) cx dX5_heldPart_4 1 rfl ?_
    refine r_aload_n (pc := 5) cx dX5_heldPart_5 0 rfl ?_
    refine r_get (pc := 6) cx cf_X5 0 11 rfl (by decide) rfl wd_360 dX5_heldPart_6 ?_
    refine r_icmp_ge (pc := 9) (tgt := 18) cx dX5_heldPart_9 (by decide) (fun h2 => ?_) (fun h2 => ?_)
    · replace hf := ifp h2 hf
      refine r_iconst (pc := 18) cx dX5_heldPart_18 ic_0 ?_
      have hi := inj1 hf
      exact r_iret (pc := 19) cx hi rfl dX5_heldPart_19
    · replace hf := ifn h2 hf
      refine r_iload_n (pc := 12) cx dX5_heldPart_12 1 rfl ?_
      refine r_bipush (pc := 13) cx dX5_heldPart_13 bp_7 ?_
      refine r_icmp_le (pc := 15) (tgt := 20) cx dX5_heldPart_15 (by decide) (fun h3 => ?_) (fun h3 => ?_)
      · replace hf := ifp h3 hf
        refine r_iload_n (pc := 20) cx dX5_heldPart_20 1 rfl ?_
        refine r_aload_n (pc := 21) cx dX5_heldPart_21 0 rfl ?_
        refine r_get (pc := 22) cx cf_X5 0 12 rfl (by decide) rfl wd_363 dX5_heldPart_22 ?_
        replace hf := nm_of hf
        obtain ⟨J5, eJ5, hf⟩ := hf
        have hJ5 : ∀ (y4 : Int32), J5 y4 = some r_ → WW p l e rm_Qu_heldPart s m args below meth c D A 4 0 0 (MQ below (QI D K A r_ (cl_Qu K q v)) args s 0 0 A) ([((q 0), ob 4 [.ref (q 1), .ref (q 2), .ref (q 3), .ref (q 4), .ref (q 5), .ref (q 6), .ref (q 7), .int (Qu_firstLoad v), .int (Qu_loads v), .int (Qu_firstBranch v), .int (Qu_branches v), .int (Qu_held v), .int (Qu_comparedHeld v)]), ((q 1), aI K 8 (Qu_loadAddress v)), ((q 2), aI K 8 (Qu_loadWord v)), ((q 3), aI K 8 (Qu_branch v)), ((q 4), aI K 8 (Qu_heldAddress v)), ((q 5), aI K 8 (Qu_heldWord v)), ((q 6), aI K 8 (Qu_besideAddress v)), ((q 7), aI K 8 (Qu_besideWord v))]) ([(0, .ref (q 0)), (1, .int a1), (2, .int a2)]) ([.int y4]) 33 := by
          clear hf
          intro y4 hf
          rw [eJ5] at hf
          refine r_istore_n (pc := 33) (loc' := [(3, .int y4), (0, .ref (q 0)), (1, .int a1), (2, .int a2)]) cx dX5_heldPart_33 rfl (by decide) rfl ?_
          refine r_iload_n (pc := 34) cx dX5_heldPart_34 3 rfl ?_
          by_cases h6 : a2 = (0 : Int32)
          · replace hf := ifp h6 hf
            refine r_tin (pc := 35) (tgt := 68) cx (0 : Int32) h6 dX5_heldPart_35 (by decide) (by decide) rfl (by decide) ?_
            refine r_aload_n (pc := 68) cx dX5_heldPart_68 1 rfl ?_
            refine r_get (pc := 69) cx cf_X5 0 3 rfl (by decide) rfl wd_346 dX5_heldPart_69 ?_
            refine r_iload_n (pc := 72) cx dX5_heldPart_72 2 rfl ?_
            replace hf := chk_of hf
            obtain ⟨h7, hf⟩ := hf
            refine r_iald (pc := 73) cx 4 rfl h7 dX5_heldPart_73 ?_
            have hi := inj1 hf
            exact r_iret (pc := 74) cx hi rfl dX5_heldPart_74
          · replace hf := ifn h6 hf
            by_cases h8 : a2 = (1 : Int32)
            · replace hf := ifp h8 hf
              refine r_tin (pc := 35) (tgt := 75) cx (1 : Int32) h8 dX5_heldPart_35 (by decide) (by decide) rfl (by decide) ?_
              refine r_aload_n (pc := 75) cx dX5_heldPart_75 1 rfl ?_
              refine r_get (pc := 76) cx cf_X5 0 4 rfl (by decide) rfl wd_348 dX5_heldPart_76 ?_
              refine r_iload_n (pc := 79) cx dX5_heldPart_79 2 rfl ?_
              replace hf := chk_of hf
              obtain ⟨h9, hf⟩ := hf
              refine r_iald (pc := 80) cx 5 rfl h9 dX5_heldPart_80 ?_
              have hi := inj1 hf
              exact r_iret (pc := 81) cx hi rfl dX5_heldPart_81
            · replace hf := ifn h8 hf
              by_cases h10 : a2 = (2 : Int32)
              · replace hf := ifp h10 hf
                refine r_tin (pc := 35) (tgt := 82) cx (2 : Int32) h10 dX5_heldPart_35 (by decide) (by decide) rfl (by decide) ?_
                refine r_iload_n (pc := 82) cx dX5_heldPart_82 0 rfl ?_
                refine r_if_eq (pc := 83) (tgt := 90) cx dX5_heldPart_83 (by decide) (fun h11 => ?_) (fun h11 => ?_)
                · replace hf := ifp h11 hf
                  refine r_iconst (pc := 90) cx dX5_heldPart_90 ic_0 ?_
                  have hi := inj1 hf
                  exact r_iret (pc := 91) cx hi rfl dX5_heldPart_91
                · replace hf := ifn h11 hf
                  refine r_iconst (pc := 86) cx dX5_heldPart_86 ic_1 ?_
                  refine r_goto (pc := 87) (tgt := 91) cx dX5_heldPart_87 (by decide) ?_
                  have hi := inj1 hf
                  exact r_iret (pc := 91) cx hi rfl dX5_heldPart_91
              · replace hf := ifn h10 hf
                by_cases h12 : a2 = (3 : Int32)
                · replace hf := ifp h12 hf
                  refine r_tin (pc := 35) (tgt := 92) cx (3 : Int32) h12 dX5_heldPart_35 (by decide) (by decide) rfl (by decide) ?_
                  refine r_iload_n (pc := 92) cx dX5_heldPart_92 0 rfl ?_
                  refine r_if_eq (pc := 93) (tgt := 105) cx dX5_heldPart_93 (by decide) (fun h13 => ?_) (fun h13 => ?_)
                  · replace hf := ifp h13 hf
                    refine r_iconst (pc := 105) cx dX5_heldPart_105 ic_0 ?_
                    have hi := inj1 hf
                    exact r_iret (pc := 106) cx hi rfl dX5_heldPart_106
                  · replace hf := ifn h13 hf
                    refine r_aload_n (pc := 96) cx dX5_heldPart_96 1 rfl ?_
                    refine r_get (pc := 97) cx cf_X5 0 5 rfl (by decide) rfl wd_350 dX5_heldPart_97 ?_
                    refine r_iload_n (pc := 100) cx dX5_heldPart_100 2 rfl ?_
                    replace hf := chk_of hf
                    obtain ⟨h14, hf⟩ := hf
                    refine r_iald (pc := 101) cx 6 rfl h14 dX5_heldPart_101 ?_
                    refine r_goto (pc := 102) (tgt := 106) cx dX5_heldPart_102 (by decide) ?_
                    have hi := inj1 hf
                    exact r_iret (pc := 106) cx hi rfl dX5_heldPart_106
                · replace hf := ifn h12 hf
                  by_cases h15 : a2 = (4 : Int32)
                  · replace hf := ifp h15 hf
                    refine r_tin (pc := 35) (tgt := 107) cx (4 : Int32) h15 dX5_heldPart_35 (by decide) (by decide) rfl (by decide) ?_
                    refine r_iload_n (pc := 107) cx dX5_heldPart_107 0 rfl ?_
                    refine r_if_eq (pc := 108) (tgt := 120) cx dX5_heldPart_108 (by decide) (fun h16 => ?_) (fun h16 => ?_)
                    · replace hf := ifp h16 hf
                      refine r_iconst (pc := 120) cx dX5_heldPart_120 ic_0 ?_
                      have hi := inj1 hf
                      exact r_iret (pc := 121) cx hi rfl dX5_heldPart_121
                    · replace hf := ifn h16 hf
                      refine r_aload_n (pc := 111) cx dX5_heldPart_111 1 rfl ?_
                      refine r_get (pc := 112) cx cf_X5 0 6 rfl (by decide) rfl wd_351 dX5_heldPart_112 ?_
                      refine r_iload_n (pc := 115) cx dX5_heldPart_115 2 rfl ?_
                      replace hf := chk_of hf
                      obtain ⟨h17, hf⟩ := hf
                      refine r_iald (pc := 116) cx 7 rfl h17 dX5_heldPart_116 ?_
                      refine r_goto (pc := 117) (tgt := 121) cx dX5_heldPart_117 (by decide) ?_
                      have hi := inj1 hf
                      exact r_iret (pc := 121) cx hi rfl dX5_heldPart_121
                  · replace hf := ifn h15 hf
                    refine r_tout (pc := 35) (tgt := 122) cx dX5_heldPart_35 (by
                      have nh6 := toInt_ne h6
                      have mh6 : (0 : Int32).toInt = 0 := by decide
                      rw [mh6] at nh6
                      have nh8 := toInt_ne h8
                      have mh8 : (1 : Int32).toInt = 1 := by decide
                      rw [mh8] at nh8
                      have nh10 := toInt_ne h10
                      have mh10 : (2 : Int32).toInt = 2 := by decide
                      rw [mh10] at nh10
                      have nh12 := toInt_ne h12
                      have mh12 : (3 : Int32).toInt = 3 := by decide
                      rw [mh12] at nh12
                      have nh15 := toInt_ne h15
                      have mh15 : (4 : Int32).toInt = 4 := by decide
                      rw [mh15] at nh15
                      omega) (by decide) ?_
                    refine r_iconst (pc := 122) cx dX5_heldPart_122 ic_0 ?_
                    have hi := inj1 hf
                    exact r_iret (pc := 123) cx hi rfl dX5_heldPart_123
        refine r_icmp_ge (pc := 25) (tgt := 32) cx dX5_heldPart_25 (by decide) (fun h18 => ?_) (fun h18 => ?_)
        · replace hf := ifp h18 hf
          refine r_iconst (pc := 32) cx dX5_heldPart_32 ic_0 ?_
          exact hJ5 _ hf
        · replace hf := ifn h18 hf
          refine r_iconst (pc := 28) cx dX5_heldPart_28 ic_1 ?_
          refine r_goto (pc := 29) (tgt := 33) cx dX5_heldPart_29 (by decide) ?_
          exact hJ5 _ hf
      · replace hf := ifn h3 hf
        refine r_iconst (pc := 18) cx dX5_heldPart_18 ic_0 ?_
        have hi := inj1 hf
        exact r_iret (pc := 19) cx hi rfl dX5_heldPart_19
theorem yv_X5_heldPart : YV yX5_heldPart cX5_heldPart 4 (some .int) 2 := ⟨⟨by decide +kernel, by decide +kernel, by decide +kernel⟩, wd_984, wd_97, wd_982, wd_983⟩
abbrev rm_Ta_clear : Room := { frames := 0, cells := 0, slots := 0, locals := 0 }
set_option maxRecDepth 100000 in
set_option maxHeartbeats 4000000 in
theorem m_Ta_clear (l : Launch) (D : va_G) (K : Nat → ClassId) (q : Nat → Nat) (v : T_Ta) {o_v : T_Ta} (hf : f_Ta_clear v = some o_v) : MV l yX8_clear cX8_clear 1 (none) rm_Ta_clear D K [.ref (q 0)] (cl_Ta K q v) (cl_Ta K q o_v) := by
  refine MV_of (loc0 := [(0, .ref (q 0))]) (by decide +kernel) rfl (Nat.le_of_ble_eq_true rfl) ?_
  intro p e s m args below meth c A cx
  unfold f_Ta_clear at hf
  refine r_ws (ws' := [((q 0), ob 7 [.ref (q 1), .ref (q 2), .ref (q 3), .ref (q 4), .int (Ta_turns v), .int (Ta_points v), .int (Ta_alarms v), .int (Ta_alarmsSincePoint v), .int (Ta_greatestAhead v), .int (Ta_aheadSum v), .int (Ta_leaderTurns v), .int (Ta_trailerTurns v), .int (Ta_comparedSteps v)]), ((q 1), aI K 8 (Ta_alarmSort v)), ((q 2), aI K 8 (Ta_alarmTurn v)), ((q 3), aI K 8 (Ta_alarmLeaderSteps v)), ((q 4), aI K 8 (Ta_alarmTrailerSteps v))]) rfl ?_
  refine r_aload_n (pc := 0) cx dX8_clear_0 0 rfl ?_
  refine r_iconst (pc := 1) cx dX8_clear_1 ic_0 ?_
  refine r_putI (pc := 2) (ws' := [((q 0), ob 7 [.ref (q 1), .ref (q 2), .ref (q 3), .ref (q 4), .int (0 : Int32), .int (Ta_points v), .int (Ta_alarms v), .int (Ta_alarmsSincePoint v), .int (Ta_greatestAhead v), .int (Ta_aheadSum v), .int (Ta_leaderTurns v), .int (Ta_trailerTurns v), .int (Ta_comparedSteps v)]), ((q 1), aI K 8 (Ta_alarmSort v)), ((q 2), aI K 8 (Ta_alarmTurn v)), ((q 3), aI K 8 (Ta_alarmLeaderSteps v)), ((q 4), aI K 8 (Ta_alarmTrailerSteps v))]) cx cf_X8 0 4 rfl (by decide) (Nat.le_of_ble_eq_true rfl) rfl pfd_I wd_434 dX8_clear_2 rfl ?_
  refine r_aload_n (pc := 5) cx dX8_clear_5 0 rfl ?_
  refine r_iconst (pc := 6) cx dX8_clear_6 ic_0 ?_
  refine r_putI (pc := 7) (ws' := [((q 0), ob 7 [.ref (q 1), .ref (q 2), .ref (q 3), .ref (q 4), .int (0 : Int32), .int (0 : Int32), .int (Ta_alarms v), .int (Ta_alarmsSincePoint v), .int (Ta_greatestAhead v), .int (Ta_aheadSum v), .int (Ta_leaderTurns v), .int (Ta_trailerTurns v), .int (Ta_comparedSteps v)]), ((q 1), aI K 8 (Ta_alarmSort v)), ((q 2), aI K 8 (Ta_alarmTurn v)), ((q 3), aI K 8 (Ta_alarmLeaderSteps v)), ((q 4), aI K 8 (Ta_alarmTrailerSteps v))]) cx cf_X8 0 5 rfl (by decide) (Nat.le_of_ble_eq_true rfl) rfl pfd_I wd_437 dX8_clear_7 rfl ?_
  refine r_aload_n (pc := 10) cx dX8_clear_10 0 rfl ?_
  refine r_iconst (pc := 11) cx dX8_clear_11 ic_0 ?_
  refine r_putI (pc := 12) (ws' := [((q 0), ob 7 [.ref (q 1), .ref (q 2), .ref (q 3), .ref (q 4), .int (0 : Int32), .int (0 : Int32), .int (0 : Int32), .int (Ta_alarmsSincePoint v), .int (Ta_greatestAhead v), .int (Ta_aheadSum v), .int (Ta_leaderTurns v), .int (Ta_trailerTurns v), .int (Ta_comparedSteps v)]), ((q 1), aI K 8 (Ta_alarmSort v)), ((q 2), aI K 8 (Ta_alarmTurn v)), ((q 3), aI K 8 (Ta_alarmLeaderSteps v)), ((q 4), aI K 8 (Ta_alarmTrailerSteps v))]) cx cf_X8 0 6 rfl (by decide) (Nat.le_of_ble_eq_true rfl) rfl pfd_I wd_439 dX8_clear_12 rfl ?_
  refine r_aload_n (pc := 15) cx dX8_clear_15 0 rfl ?_
  refine r_iconst (pc := 16) cx dX8_clear_16 ic_0 ?_
  refine r_putI (pc := 17) (ws' := [((q 0), ob 7 [.ref (q 1), .ref (q 2), .ref (q 3), .ref (q 4), .int (0 : Int32), .int (0 : Int32), .int (0 : Int32), .int (0 : Int32), .int (Ta_greatestAhead v), .int (Ta_aheadSum v), .int (Ta_leaderTurns v), .int (Ta_trailerTurns v), .int (Ta_comparedSteps v)]), ((q 1), aI K 8 (Ta_alarmSort v)), ((q 2), aI K 8 (Ta_alarmTurn v)), ((q 3), aI K 8 (Ta_alarmLeaderSteps v)), ((q 4), aI K 8 (Ta_alarmTrailerSteps v))]) cx cf_X8 0 7 rfl (by decide) (Nat.le_of_ble_eq_true rfl) rfl pfd_I wd_441 dX8_clear_17 rfl ?_
  refine r_aload_n (pc := 20) cx dX8_clear_20 0 rfl ?_
  refine r_iconst (pc := 21) cx dX8_clear_21 ic_0 ?_
  refine r_putI (pc := 22) (ws' := [((q 0), ob 7 [.ref (q 1), .ref (q 2), .ref (q 3), .ref (q 4), .int (0 : Int32), .int (0 : Int32), .int (0 : Int32), .int (0 : Int32), .int (0 : Int32), .int (Ta_aheadSum v), .int (Ta_leaderTurns v), .int (Ta_trailerTurns v), .int (Ta_comparedSteps v)]), ((q 1), aI K 8 (Ta_alarmSort v)), ((q 2), aI K 8 (Ta_alarmTurn v)), ((q 3), aI K 8 (Ta_alarmLeaderSteps v)), ((q 4), aI K 8 (Ta_alarmTrailerSteps v))]) cx cf_X8 0 8 rfl (by decide) (Nat.le_of_ble_eq_true rfl) rfl pfd_I wd_443 dX8_clear_22 rfl ?_
  refine r_aload_n (pc := 25) cx dX8_clear_25 0 rfl ?_
  refine r_iconst (pc := 26) cx dX8_clear_26 ic_0 ?_
  refine r_putI (pc := 27) (ws' := [((q 0), ob 7 [.ref (q 1), .ref (q 2), .ref (q 3), .ref (q 4), .int (0 : Int32), .int (0 : Int32), .int (0 : Int32), .int (0 : Int32), .int (0 : Int32), .int (0 : Int32), .int (Ta_leaderTurns v), .int (Ta_trailerTurns v), .int (Ta_comparedSteps v)]), ((q 1), aI K 8 (Ta_alarmSort v)), ((q 2), aI K 8 (Ta_alarmTurn v)), ((q 3), aI K 8 (Ta_alarmLeaderSteps v)), ((q 4), aI K 8 (Ta_alarmTrailerSteps v))]) cx cf_X8 0 9 rfl (by decide) (Nat.le_of_ble_eq_true rfl) rfl pfd_I wd_445 dX8_clear_27 rfl ?_
  refine r_aload_n (pc := 30) cx dX8_clear_30 0 rfl ?_
  refine r_iconst (pc := 31) cx dX8_clear_31 ic_0 ?_
  refine r_putI (pc := 32) (ws' := [((q 0), ob 7 [.ref (q 1), .ref (q 2), .ref (q 3), .ref (q 4), .int (0 : Int32), .int (0 : Int32), .int (0 : Int32), .int (0 : Int32), .int (0 : Int32), .int (0 : Int32), .int (0 : Int32), .int (Ta_trailerTurns v), .int (Ta_comparedSteps v)]), ((q 1), aI K 8 (Ta_alarmSort v)), ((q 2), aI K 8 (Ta_alarmTurn v)), ((q 3), aI K 8 (Ta_alarmLeaderSteps v)), ((q 4), aI K 8 (Ta_alarmTrailerSteps v))]) cx cf_X8 0 10 rfl (by decide) (Nat.le_of_ble_eq_true rfl) rfl pfd_I wd_448 dX8_clear_32 rfl ?_
  refine r_aload_n (pc := 35) cx dX8_clear_35 0 rfl ?_
  refine r_iconst (pc := 36) cx dX8_clear_36 ic_0 ?_
  refine r_putI (pc := 37) (ws' := [((q 0), ob 7 [.ref (q 1), .ref (q 2), .ref (q 3), .ref (q 4), .int (0 : Int32), .int (0 : Int32), .int (0 : Int32), .int (0 : Int32), .int (0 : Int32), .int (0 : Int32), .int (0 : Int32), .int (0 : Int32), .int (Ta_comparedSteps v)]), ((q 1), aI K 8 (Ta_alarmSort v)), ((q 2), aI K 8 (Ta_alarmTurn v)), ((q 3), aI K 8 (Ta_alarmLeaderSteps v)), ((q 4), aI K 8 (Ta_alarmTrailerSteps v))]) cx cf_X8 0 11 rfl (by decide) (Nat.le_of_ble_eq_true rfl) rfl pfd_I wd_450 dX8_clear_37 rfl ?_
  refine r_aload_n (pc := 40) cx dX8_clear_40 0 rfl ?_
  refine r_iconst (pc := 41) cx dX8_clear_41 ic_0 ?_
  refine r_putI (pc := 42) (ws' := [((q 0), ob 7 [.ref (q 1), .ref (q 2), .ref (q 3), .ref (q 4), .int (0 : Int32), .int (0 : Int32), .int (0 : Int32), .int (0 : Int32), .int (0 : Int32), .int (0 : Int32), .int (0 : Int32), .int (0 : Int32), .int (0 : Int32)]), ((q 1), aI K 8 (Ta_alarmSort v)), ((q 2), aI K 8 (Ta_alarmTurn v)), ((q 3), aI K 8 (Ta_alarmLeaderSteps v)), ((q 4), aI K 8 (Ta_alarmTrailerSteps v))]) cx cf_X8 0 12 rfl (by decide) (Nat.le_of_ble_eq_true rfl) rfl pfd_I wd_452 dX8_clear_42 rfl ?_
  have hi := inj1 hf
  exact r_vret (pc := 45) cx (by rw [← hi]; (try simp only [cl_Ta, Ta_alarmSort_mk, Ta_alarmTurn_mk, Ta_alarmLeaderSteps_mk, Ta_alarmTrailerSteps_mk, Ta_turns_mk, Ta_points_mk, Ta_alarms_mk, Ta_alarmsSincePoint_mk, Ta_greatestAhead_mk, Ta_aheadSum_mk, Ta_leaderTurns_mk, Ta_trailerTurns_mk, Ta_comparedSteps_mk, List.cons_append, List.nil_append, List.append_nil]) <;> rfl) dX8_clear_45
theorem yv_X8_clear : YV yX8_clear cX8_clear 1 (none) 0 := ⟨⟨by decide +kernel, by decide +kernel, by decide +kernel⟩, wd_509, wd_99, wd_507, wd_508⟩
abbrev rm_Ta_copyFrom : Room := { frames := 1, cells := 0, slots := 0, locals := 40 }
set_option maxRecDepth 100000 in
set_option maxHeartbeats 4000000 in
theorem m_Ta_copyFrom (l : Launch) (D : va_G) (K : Nat → ClassId) (q : Nat → Nat) (v : T_Ta) (qw : Nat → Nat) (w : T_Ta) {o_v : T_Ta} (hf : f_Ta_copyFrom v w = some o_v) : MV l yX8_copyFrom cX8_copyFrom 2 (none) rm_Ta_copyFrom D K [.ref (q 0), .ref (qw 0)] (cl_Ta K q v ++ (cl_Ta K qw w)) (cl_Ta K q o_v ++ (cl_Ta K qw w)) := by
  refine MV_of (loc0 := [(0, .ref (q 0)), (1, .ref (qw 0))]) (by decide +kernel) rfl (Nat.le_of_ble_eq_true rfl) ?_
  intro p e s m args below meth c A cx
  unfold f_Ta_copyFrom at hf
  refine r_ws (ws' := [((q 0), ob 7 [.ref (q 1), .ref (q 2), .ref (q 3), .ref (q 4), .int (Ta_turns v), .int (Ta_points v), .int (Ta_alarms v), .int (Ta_alarmsSincePoint v), .int (Ta_greatestAhead v), .int (Ta_aheadSum v), .int (Ta_leaderTurns v), .int (Ta_trailerTurns v), .int (Ta_comparedSteps v)]), ((q 1), aI K 8 (Ta_alarmSort v)), ((q 2), aI K 8 (Ta_alarmTurn v)), ((q 3), aI K 8 (Ta_alarmLeaderSteps v)), ((q 4), aI K 8 (Ta_alarmTrailerSteps v)), ((qw 0), ob 7 [.ref (qw 1), .ref (qw 2), .ref (qw 3), .ref (qw 4), .int (Ta_turns w), .int (Ta_points w), .int (Ta_alarms w), .int (Ta_alarmsSincePoint w), .int (Ta_greatestAhead w), .int (Ta_aheadSum w), .int (Ta_leaderTurns w), .int (Ta_trailerTurns w), .int (Ta_comparedSteps w)]), ((qw 1), aI K 8 (Ta_alarmSort w)), ((qw 2), aI K 8 (Ta_alarmTurn w)), ((qw 3), aI K 8 (Ta_alarmLeaderSteps w)), ((qw 4), aI K 8 (Ta_alarmTrailerSteps w))]) rfl ?_
  refine r_aload_n (pc := 0) cx dX8_copyFrom_0 1 rfl ?_
  refine r_get (pc := 1) cx cf_X8 5 0 rfl (by decide) rfl wd_430 dX8_copyFrom_1 ?_
  refine r_iconst (pc := 4) cx dX8_copyFrom_4 ic_0 ?_
  refine r_aload_n (pc := 5) cx dX8_copyFrom_5 0 rfl ?_
  refine r_get (pc := 6) cx cf_X8 0 0 rfl (by decide) rfl wd_430 dX8_copyFrom_6 ?_
  refine r_iconst (pc := 9) cx dX8_copyFrom_9 ic_0 ?_
  refine r_bipush (pc := 10) cx dX8_copyFrom_10 bp_8 ?_
  replace hf := nm_of hf
  obtain ⟨f1, ef1, hf⟩ := hf
  refine r_copyI (pc := 12) (ws' := [((q 0), ob 7 [.ref (q 1), .ref (q 2), .ref (q 3), .ref (q 4), .int (Ta_turns v), .int (Ta_points v), .int (Ta_alarms v), .int (Ta_alarmsSincePoint v), .int (Ta_greatestAhead v), .int (Ta_aheadSum v), .int (Ta_leaderTurns v), .int (Ta_trailerTurns v), .int (Ta_comparedSteps v)]), ((q 1), aI K 8 f1), ((q 2), aI K 8 (Ta_alarmTurn v)), ((q 3), aI K 8 (Ta_alarmLeaderSteps v)), ((q 4), aI K 8 (Ta_alarmTrailerSteps v)), ((qw 0), ob 7 [.ref (qw 1), .ref (qw 2), .ref (qw 3), .ref (qw 4), .int (Ta_turns w), .int (Ta_points w), .int (Ta_alarms w), .int (Ta_alarmsSincePoint w), .int (Ta_greatestAhead w), .int (Ta_aheadSum w), .int (Ta_leaderTurns w), .int (Ta_trailerTurns w), .int (Ta_comparedSteps w)]), ((qw 1), aI K 8 (Ta_alarmSort w)), ((qw 2), aI K 8 (Ta_alarmTurn w)), ((qw 3), aI K 8 (Ta_alarmLeaderSteps w)), ((qw 4), aI K 8 (Ta_alarmTrailerSteps w))]) cx 6 1 rfl rfl (by decide) (nn := 8) (by decide) (by decide) (by decide) ef1 wd_1064 wd_488 wd_487 wd_100 (by decide) (by decide) dX8_copyFrom_12 rfl ?_
  refine r_aload_n (pc := 15) cx dX8_copyFrom_15 1 rfl ?_
  refine r_get (pc := 16) cx cf_X8 5 1 rfl (by decide) rfl wd_431 dX8_copyFrom_16 ?_
  refine r_iconst (pc := 19) cx dX8_copyFrom_19 ic_0 ?_
  refine r_aload_n (pc := 20) cx dX8_copyFrom_20 0 rfl ?_
  refine r_get (pc := 21) cx cf_X8 0 1 rfl (by decide) rfl wd_431 dX8_copyFrom_21 ?_
  refine r_iconst (pc := 24) cx dX8_copyFrom_24 ic_0 ?_
  refine r_bipush (pc := 25) cx dX8_copyFrom_25 bp_8 ?_
  replace hf := nm_of hf
  obtain ⟨f2, ef2, hf⟩ := hf
  refine r_copyI (pc := 27) (ws' := [((q 0), ob 7 [.ref (q 1), .ref (q 2), .ref (q 3), .ref (q 4), .int (Ta_turns v), .int (Ta_points v), .int (Ta_alarms v), .int (Ta_alarmsSincePoint v), .int (Ta_greatestAhead v), .int (Ta_aheadSum v), .int (Ta_leaderTurns v), .int (Ta_trailerTurns v), .int (Ta_comparedSteps v)]), ((q 1), aI K 8 f1), ((q 2), aI K 8 f2), ((q 3), aI K 8 (Ta_alarmLeaderSteps v)), ((q 4), aI K 8 (Ta_alarmTrailerSteps v)), ((qw 0), ob 7 [.ref (qw 1), .ref (qw 2), .ref (qw 3), .ref (qw 4), .int (Ta_turns w), .int (Ta_points w), .int (Ta_alarms w), .int (Ta_alarmsSincePoint w), .int (Ta_greatestAhead w), .int (Ta_aheadSum w), .int (Ta_leaderTurns w), .int (Ta_trailerTurns w), .int (Ta_comparedSteps w)]), ((qw 1), aI K 8 (Ta_alarmSort w)), ((qw 2), aI K 8 (Ta_alarmTurn w)), ((qw 3), aI K 8 (Ta_alarmLeaderSteps w)), ((qw 4), aI K 8 (Ta_alarmTrailerSteps w))]) cx 7 2 rfl rfl (by decide) (nn := 8) (by decide) (by decide) (by decide) ef2 wd_1064 wd_488 wd_487 wd_100 (by decide) (by decide) dX8_copyFrom_27 rfl ?_
  refine r_aload_n (pc := 30) cx dX8_copyFrom_30 1 rfl ?_
  refine r_get (pc := 31) cx cf_X8 5 2 rfl (by decide) rfl wd_432 dX8_copyFrom_31 ?_
  refine r_iconst (pc := 34) cx dX8_copyFrom_34 ic_0 ?_
  refine r_aload_n (pc := 35) cx dX8_copyFrom_35 0 rfl ?_
  refine r_get (pc := 36) cx cf_X8 0 2 rfl (by decide) rfl wd_432 dX8_copyFrom_36 ?_
  refine r_iconst (pc := 39) cx dX8_copyFrom_39 ic_0 ?_
  refine r_bipush (pc := 40) cx dX8_copyFrom_40 bp_8 ?_
  replace hf := nm_of hf
  obtain ⟨f3, ef3, hf⟩ := hf
  refine r_copyI (pc := 42) (ws' := [((q 0), ob 7 [.ref (q 1), .ref (q 2), .ref (q 3), .ref (q 4), .int (Ta_turns v), .int (Ta_points v), .int (Ta_alarms v), .int (Ta_alarmsSincePoint v), .int (Ta_greatestAhead v), .int (Ta_aheadSum v), .int (Ta_leaderTurns v), .int (Ta_trailerTurns v), .int (Ta_comparedSteps v)]), ((q 1), aI K 8 f1), ((q 2), aI K 8 f2), ((q 3), aI K 8 f3), ((q 4), aI K 8 (Ta_alarmTrailerSteps v)), ((qw 0), ob 7 [.ref (qw 1), .ref (qw 2), .ref (qw 3), .ref (qw 4), .int (Ta_turns w), .int (Ta_points w), .int (Ta_alarms w), .int (Ta_alarmsSincePoint w), .int (Ta_greatestAhead w), .int (Ta_aheadSum w), .int (Ta_leaderTurns w), .int (Ta_trailerTurns w), .int (Ta_comparedSteps w)]), ((qw 1), aI K 8 (Ta_alarmSort w)), ((qw 2), aI K 8 (Ta_alarmTurn w)), ((qw 3), aI K 8 (Ta_alarmLeaderSteps w)), ((qw 4), aI K 8 (Ta_alarmTrailerSteps w))]) cx 8 3 rfl rfl (by decide) (nn := 8) (by decide) (by decide) (by decide) ef3 wd_1064 wd_488 wd_487 wd_100 (by decide) (by decide) dX8_copyFrom_42 rfl ?_
  refine r_aload_n (pc := 45) cx dX8_copyFrom_45 1 rfl ?_
  refine r_get (pc := 46) cx cf_X8 5 3 rfl (by decide) rfl wd_433 dX8_copyFrom_46 ?_
  refine r_iconst (pc := 49) cx dX8_copyFrom_49 ic_0 ?_
  refine r_aload_n (pc := 50) cx dX8_copyFrom_50 0 rfl ?_
  refine r_get (pc := 51) cx cf_X8 0 3 rfl (by decide) rfl wd_433 dX8_copyFrom_51 ?_
  refine r_iconst (pc := 54) cx dX8_copyFrom_54 ic_0 ?_
  refine r_bipush (pc := 55) cx dX8_copyFrom_55 bp_8 ?_
  replace hf := nm_of hf
  obtain ⟨f4, ef4, hf⟩ := hf
  refine r_copyI (pc := 57) (ws' := [((q 0), ob 7 [.ref (q 1), .ref (q 2), .ref (q 3), .ref (q 4), .int (Ta_turns v), .int (Ta_points v), .int (Ta_alarms v), .int (Ta_alarmsSincePoint v), .int (Ta_greatestAhead v), .int (Ta_aheadSum v), .int (Ta_leaderTurns v), .int (Ta_trailerTurns v), .int (Ta_comparedSteps v)]), ((q 1), aI K 8 f1), ((q 2), aI K 8 f2), ((q 3), aI K 8 f3), ((q 4), aI K 8 f4), ((qw 0), ob 7 [.ref (qw 1), .ref (qw 2), .ref (qw 3), .ref (qw 4), .int (Ta_turns w), .int (Ta_points w), .int (Ta_alarms w), .int (Ta_alarmsSincePoint w), .int (Ta_greatestAhead w), .int (Ta_aheadSum w), .int (Ta_leaderTurns w), .int (Ta_trailerTurns w), .int (Ta_comparedSteps w)]), ((qw 1), aI K 8 (Ta_alarmSort w)), ((qw 2), aI K 8 (Ta_alarmTurn w)), ((qw 3), aI K 8 (Ta_alarmLeaderSteps w)), ((qw 4), aI K 8 (Ta_alarmTrailerSteps w))]) cx 9 4 rfl rfl (by decide) (nn := 8) (by decide) (by decide) (by decide) ef4 wd_1064 wd_488 wd_487 wd_100 (by decide) (by decide) dX8_copyFrom_57 rfl ?_
  refine r_aload_n (pc := 60) cx dX8_copyFrom_60 0 rfl ?_
  refine r_aload_n (pc := 61) cx dX8_copyFrom_61 1 rfl ?_
  refine r_get (pc := 62) cx cf_X8 5 4 rfl (by decide) rfl wd_434 dX8_copyFrom_62 ?_
  replace hf := nm_of hf
  obtain ⟨x5, ex5, hf⟩ := hf
  refine r_nm ex5 ?_
  refine r_putI (pc := 65) (ws' := [((q 0), ob 7 [.ref (q 1), .ref (q 2), .ref (q 3), .ref (q 4), .int x5, .int (Ta_points v), .int (Ta_alarms v), .int (Ta_alarmsSincePoint v), .int (Ta_greatestAhead v), .int (Ta_aheadSum v), .int (Ta_leaderTurns v), .int (Ta_trailerTurns v), .int (Ta_comparedSteps v)]), ((q 1), aI K 8 f1), ((q 2), aI K 8 f2), ((q 3), aI K 8 f3), ((q 4), aI K 8 f4), ((qw 0), ob 7 [.ref (qw 1), .ref (qw 2), .ref (qw 3), .ref (qw 4), .int (Ta_turns w), .int (Ta_points w), .int (Ta_alarms w), .int (Ta_alarmsSincePoint w), .int (Ta_greatestAhead w), .int (Ta_aheadSum w), .int (Ta_leaderTurns w), .int (Ta_trailerTurns w), .int (Ta_comparedSteps w)]), ((qw 1), aI K 8 (Ta_alarmSort w)), ((qw 2), aI K 8 (Ta_alarmTurn w)), ((qw 3), aI K 8 (Ta_alarmLeaderSteps w)), ((qw 4), aI K 8 (Ta_alarmTrailerSteps w))]) cx cf_X8 0 4 rfl (by decide) (Nat.le_of_ble_eq_true rfl) rfl pfd_I wd_434 dX8_copyFrom_65 rfl ?_
  refine r_aload_n (pc := 68) cx dX8_copyFrom_68 0 rfl ?_
  refine r_aload_n (pc := 69) cx dX8_copyFrom_69 1 rfl ?_
  refine r_get (pc := 70) cx cf_X8 5 5 rfl (by decide) rfl wd_437 dX8_copyFrom_70 ?_
  replace hf := nm_of hf
  obtain ⟨x6, ex6, hf⟩ := hf
  refine r_nm ex6 ?_
  refine r_putI (pc := 73) (ws' := [((q 0), ob 7 [.ref (q 1), .ref (q 2), .ref (q 3), .ref (q 4), .int x5, .int x6, .int (Ta_alarms v), .int (Ta_alarmsSincePoint v), .int (Ta_greatestAhead v), .int (Ta_aheadSum v), .int (Ta_leaderTurns v), .int (Ta_trailerTurns v), .int (Ta_comparedSteps v)]), ((q 1), aI K 8 f1), ((q 2), aI K 8 f2), ((q 3), aI K 8 f3), ((q 4), aI K 8 f4), ((qw 0), ob 7 [.ref (qw 1), .ref (qw 2), .ref (qw 3), .ref (qw 4), .int (Ta_turns w), .int (Ta_points w), .int (Ta_alarms w), .int (Ta_alarmsSincePoint w), .int (Ta_greatestAhead w), .int (Ta_aheadSum w), .int (Ta_leaderTurns w), .int (Ta_trailerTurns w), .int (Ta_comparedSteps w)]), ((qw 1), aI K 8 (Ta_alarmSort w)), ((qw 2), aI K 8 (Ta_alarmTurn w)), ((qw 3), aI K 8 (Ta_alarmLeaderSteps w)), ((qw 4), aI K 8 (Ta_alarmTrailerSteps w))]) cx cf_X8 0 5 rfl (by decide) (Nat.le_of_ble_eq_true rfl) rfl pfd_I wd_437 dX8_copyFrom_73 rfl ?_
  refine r_aload_n (pc := 76) cx dX8_copyFrom_76 0 rfl ?_
  refine r_aload_n (pc := 77) cx dX8_copyFrom_77 1 rfl ?_
  refine r_get (pc := 78) cx cf_X8 5 6 rfl (by decide) rfl wd_439 dX8_copyFrom_78 ?_
  replace hf := nm_of hf
  obtain ⟨x7, ex7, hf⟩ := hf
  refine r_nm ex7 ?_
  refine r_putI (pc := 81) (ws' := [((q 0), ob 7 [.ref (q 1), .ref (q 2), .ref (q 3), .ref (q 4), .int x5, .int x6, .int x7, .int (Ta_alarmsSincePoint v), .int (Ta_greatestAhead v), .int (Ta_aheadSum v), .int (Ta_leaderTurns v), .int (Ta_trailerTurns v), .int (Ta_comparedSteps v)]), ((q 1), aI K 8 f1), ((q 2), aI K 8 f2), ((q 3), aI K 8 f3), ((q 4), aI K 8 f4), ((qw 0), ob 7 [.ref (qw 1), .ref (qw 2), .ref (qw 3), .ref (qw 4), .int (Ta_turns w), .int (Ta_points w), .int (Ta_alarms w), .int (Ta_alarmsSincePoint w), .int (Ta_greatestAhead w), .int (Ta_aheadSum w), .int (Ta_leaderTurns w), .int (Ta_trailerTurns w), .int (Ta_comparedSteps w)]), ((qw 1), aI K 8 (Ta_alarmSort w)), ((qw 2), aI K 8 (Ta_alarmTurn w)), ((qw 3), aI K 8 (Ta_alarmLeaderSteps w)), ((qw 4), aI K 8 (Ta_alarmTrailerSteps w))]) cx cf_X8 0 6 rfl (by decide) (Nat.le_of_ble_eq_true rfl) rfl pfd_I wd_439 dX8_copyFrom_81 rfl ?_
  refine r_aload_n (pc := 84) cx dX8_copyFrom_84 0 rfl ?_
  refine r_aload_n (pc := 85) cx dX8_copyFrom_85 1 rfl ?_
  refine r_get (pc := 86) cx cf_X8 5 7 rfl (by decide) rfl wd_441 dX8_copyFrom_86 ?_
  replace hf := nm_of hf
  obtain ⟨x8, ex8, hf⟩ := hf
  refine r_nm ex8 ?_
  refine r_putI (pc := 89) (ws' := [((q 0), ob 7 [.ref (q 1), .ref (q 2), .ref (q 3), .ref (q 4), .int x5, .int x6, .int x7, .int x8, .int (Ta_greatestAhead v), .int (Ta_aheadSum v), .int (Ta_leaderTurns v), .int (Ta_trailerTurns v), .int (Ta_comparedSteps v)]), ((q 1), aI K 8 f1), ((q 2), aI K 8 f2), ((q 3), aI K 8 f3), ((q 4), aI K 8 f4), ((qw 0), ob 7 [.ref (qw 1), .ref (qw 2), .ref (qw 3), .ref (qw 4), .int (Ta_turns w), .int (Ta_points w), .int (Ta_alarms w), .int (Ta_alarmsSincePoint w), .int (Ta_greatestAhead w), .int (Ta_aheadSum w), .int (Ta_leaderTurns w), .int (Ta_trailerTurns w), .int (Ta_comparedSteps w)]), ((qw 1), aI K 8 (Ta_alarmSort w)), ((qw 2), aI K 8 (Ta_alarmTurn w)), ((qw 3), aI K 8 (Ta_alarmLeaderSteps w)), ((qw 4), aI K 8 (Ta_alarmTrailerSteps w))]) cx cf_X8 0 7 rfl (by decide) (Nat.le_of_ble_eq_true rfl) rfl pfd_I wd_441 dX8_copyFrom_89 rfl ?_
  refine r_aload_n (pc := 92) cx dX8_copyFrom_92 0 rfl ?_
  refine r_aload_n (pc := 93) cx dX8_copyFrom_93 1 rfl ?_
  refine r_get (pc := 94) cx cf_X8 5 8 rfl (by decide) rfl wd_443 dX8_copyFrom_94 ?_
  replace hf := nm_of hf
  obtain ⟨x9, ex9, hf⟩ := hf
  refine r_nm ex9 ?_
  refine r_putI (pc := 97) (ws' := [((q 0), ob 7 [.ref (q 1), .ref (q 2), .ref (q 3), .ref (q 4), .int x5, .int x6, .int x7, .int x8, .int x9, .int (Ta_aheadSum v), .int (Ta_leaderTurns v), .int (Ta_trailerTurns v), .int (Ta_comparedSteps v)]), ((q 1), aI K 8 f1), ((q 2), aI K 8 f2), ((q 3), aI K 8 f3), ((q 4), aI K 8 f4), ((qw 0), ob 7 [.ref (qw 1), .ref (qw 2), .ref (qw 3), .ref (qw 4), .int (Ta_turns w), .int (Ta_points w), .int (Ta_alarms w), .int (Ta_alarmsSincePoint w), .int (Ta_greatestAhead w), .int (Ta_aheadSum w), .int (Ta_leaderTurns w), .int (Ta_trailerTurns w), .int (Ta_comparedSteps w)]), ((qw 1), aI K 8 (Ta_alarmSort w)), ((qw 2), aI K 8 (Ta_alarmTurn w)), ((qw 3), aI K 8 (Ta_alarmLeaderSteps w)), ((qw 4), aI K 8 (Ta_alarmTrailerSteps w))]) cx cf_X8 0 8 rfl (by decide) (Nat.le_of_ble_eq_true rfl) rfl pfd_I wd_443 dX8_copyFrom_97 rfl ?_
  refine r_aload_n (pc := 100) cx dX8_copyFrom_100 0 rfl ?_
  refine r_aload_n (pc := 101) cx dX8_copyFrom_101 1 rfl ?_
  refine r_get (pc := 102) cx cf_X8 5 9 rfl (by decide) rfl wd_445 dX8_copyFrom_102 ?_
  replace hf := nm_of hf
  obtain ⟨x10, ex10, hf⟩ := hf
  refine r_nm ex10 ?_
  refine r_putI (pc := 105) (ws' := [((q 0), ob 7 [.ref (q 1), .ref (q 2), .ref (q 3), .ref (q 4), .int x5, .int x6, .int x7, .int x8, .int x9, .int x10, .int (Ta_leaderTurns v), .int (Ta_trailerTurns v), .int (Ta_comparedSteps v)]), ((q 1), aI K 8 f1), ((q 2), aI K 8 f2), ((q 3), aI K 8 f3), ((q 4), aI K 8 f4), ((qw 0), ob 7 [.ref (qw 1), .ref (qw 2), .ref (qw 3), .ref (qw 4), .int (Ta_turns w), .int (Ta_points w), .int (Ta_alarms w), .int (Ta_alarmsSincePoint w), .int (Ta_greatestAhead w), .int (Ta_aheadSum w), .int (Ta_leaderTurns w), .int (Ta_trailerTurns w), .int (Ta_comparedSteps w)]), ((qw 1), aI K 8 (Ta_alarmSort w)), ((qw 2), aI K 8 (Ta_alarmTurn w)), ((qw 3), aI K 8 (Ta_alarmLeaderSteps w)), ((qw 4), aI K 8 (Ta_alarmTrailerSteps w))]) cx cf_X8 0 9 rfl (by decide) (Nat.le_of_ble_eq_true rfl) rfl pfd_I wd_445 dX8_copyFrom_105 rfl ?_
  refine r_aload_n (pc := 108) cx dX8_copyFrom_108 0 rfl ?_
  refine r_aload_n (pc := 109) cx dX8_copyFrom_109 1 rfl ?_
  refine r_get (pc := 110) cx cf_X8 5 10 rfl (by decide) rfl wd_448 dX8_copyFrom_110 ?_
  replace hf := nm_of hf
  obtain ⟨x11, ex11, hf⟩ := hf
  refine r_nm ex11 ?_
  refine r_putI (pc := 113) (ws' := [((q 0), ob 7 [.ref (q 1), .ref (q 2), .ref (q 3), .ref (q 4), .int x5, .int x6, .int x7, .int x8, .int x9, .int x10, .int x11, .int (Ta_trailerTurns v), .int (Ta_comparedSteps v)]), ((q 1), aI K 8 f1), ((q 2), aI K 8 f2), ((q 3), aI K 8 f3), ((q 4), aI K 8 f4), ((qw 0), ob 7 [.ref (qw 1), .ref (qw 2), .ref (qw 3), .ref (qw 4), .int (Ta_turns w), .int (Ta_points w), .int (Ta_alarms w), .int (Ta_alarmsSincePoint w), .int (Ta_greatestAhead w), .int (Ta_aheadSum w), .int (Ta_leaderTurns w), .int (Ta_trailerTurns w), .int (Ta_comparedSteps w)]), ((qw 1), aI K 8 (Ta_alarmSort w)), ((qw 2), aI K 8 (Ta_alarmTurn w)), ((qw 3), aI K 8 (Ta_alarmLeaderSteps w)), ((qw 4), aI K 8 (Ta_alarmTrailerSteps w))]) cx cf_X8 0 10 rfl (by decide) (Nat.le_of_ble_eq_true rfl) rfl pfd_I wd_448 dX8_copyFrom_113 rfl ?_
  refine r_aload_n (pc := 116) cx dX8_copyFrom_116 0 rfl ?_
  refine r_aload_n (pc := 117) cx dX8_copyFrom_117 1 rfl ?_
  refine r_get (pc := 118) cx cf_X8 5 11 rfl (by decide) rfl wd_450 dX8_copyFrom_118 ?_
  replace hf := nm_of hf
  obtain ⟨x12, ex12, hf⟩ := hf
  refine r_nm ex12 ?_
  refine r_putI (pc := 121) (ws' := [((q 0), ob 7 [.ref (q 1), .ref (q 2), .ref (q 3), .ref (q 4), .int x5, .int x6, .int x7, .int x8, .int x9, .int x10, .int x11, .int x12, .int (Ta_comparedSteps v)]), ((q 1), aI K 8 f1), ((q 2), aI K 8 f2), ((q 3), aI K 8 f3), ((q 4), aI K 8 f4), ((qw 0), ob 7 [.ref (qw 1), .ref (qw 2), .ref (qw 3), .ref (qw 4), .int (Ta_turns w), .int (Ta_points w), .int (Ta_alarms w), .int (Ta_alarmsSincePoint w), .int (Ta_greatestAhead w), .int (Ta_aheadSum w), .int (Ta_leaderTurns w), .int (Ta_trailerTurns w), .int (Ta_comparedSteps w)]), ((qw 1), aI K 8 (Ta_alarmSort w)), ((qw 2), aI K 8 (Ta_alarmTurn w)), ((qw 3), aI K 8 (Ta_alarmLeaderSteps w)), ((qw 4), aI K 8 (Ta_alarmTrailerSteps w))]) cx cf_X8 0 11 rfl (by decide) (Nat.le_of_ble_eq_true rfl) rfl pfd_I wd_450 dX8_copyFrom_121 rfl ?_
  refine r_aload_n (pc := 124) cx dX8_copyFrom_124 0 rfl ?_
  refine r_aload_n (pc := 125) cx dX8_copyFrom_125 1 rfl ?_
  refine r_get (pc := 126) cx cf_X8 5 12 rfl (by decide) rfl wd_452 dX8_copyFrom_126 ?_
  replace hf := nm_of hf
  obtain ⟨x13, ex13, hf⟩ := hf
  refine r_nm ex13 ?_
  refine r_putI (pc := 129) (ws' := [((q 0), ob 7 [.ref (q 1), .ref (q 2), .ref (q 3), .ref (q 4), .int x5, .int x6, .int x7, .int x8, .int x9, .int x10, .int x11, .int x12, .int x13]), ((q 1), aI K 8 f1), ((q 2), aI K 8 f2), ((q 3), aI K 8 f3), ((q 4), aI K 8 f4), ((qw 0), ob 7 [.ref (qw 1), .ref (qw 2), .ref (qw 3), .ref (qw 4), .int (Ta_turns w), .int (Ta_points w), .int (Ta_alarms w), .int (Ta_alarmsSincePoint w), .int (Ta_greatestAhead w), .int (Ta_aheadSum w), .int (Ta_leaderTurns w), .int (Ta_trailerTurns w), .int (Ta_comparedSteps w)]), ((qw 1), aI K 8 (Ta_alarmSort w)), ((qw 2), aI K 8 (Ta_alarmTurn w)), ((qw 3), aI K 8 (Ta_alarmLeaderSteps w)), ((qw 4), aI K 8 (Ta_alarmTrailerSteps w))]) cx cf_X8 0 12 rfl (by decide) (Nat.le_of_ble_eq_true rfl) rfl pfd_I wd_452 dX8_copyFrom_129 rfl ?_
  have hi := inj1 hf
  exact r_vret (pc := 132) cx (by rw [← hi]; (try simp only [cl_Ta, Ta_alarmSort_mk, Ta_alarmTurn_mk, Ta_alarmLeaderSteps_mk, Ta_alarmTrailerSteps_mk, Ta_turns_mk, Ta_points_mk, Ta_alarms_mk, Ta_alarmsSincePoint_mk, Ta_greatestAhead_mk, Ta_aheadSum_mk, Ta_leaderTurns_mk, Ta_trailerTurns_mk, Ta_comparedSteps_mk, List.cons_append, List.nil_append, List.append_nil]) <;> rfl) dX8_copyFrom_132
theorem yv_X8_copyFrom : YV yX8_copyFrom cX8_copyFrom 2 (none) 1 := ⟨⟨by decide +kernel, by decide +kernel, by decide +kernel⟩, wd_1063, wd_99, wd_1061, wd_1062⟩
abbrev rm_Ta_addAlarm : Room := { frames := 0, cells := 0, slots := 0, locals := 0 }
set_option maxRecDepth 100000 in
set_option maxHeartbeats 4000000 in
theorem m_Ta_addAlarm (l : Launch) (D : va_G) (K : Nat → ClassId) (q : Nat → Nat) (v : T_Ta) (a1 : Int32) (a2 : Int32) (a3 : Int32) {o_v : T_Ta} (hf : f_Ta_addAlarm v a1 a2 a3 = some o_v) : MV l yX8_addAlarm cX8_addAlarm 5 (none) rm_Ta_addAlarm D K [.ref (q 0), .int a1, .int a2, .int a3] (cl_Ta K q v) (cl_Ta K q o_v) := by
  refine MV_of (loc0 := [(0, .ref (q 0)), (1, .int a1), (2, .int a2), (3, .int a3)]) (by decide +kernel) rfl (Nat.le_of_ble_eq_true rfl) ?_
  intro p e s m args below meth c A cx
  unfold f_Ta_addAlarm at hf
  refine r_ws (ws' := [((q 0), ob 7 [.ref (q 1), .ref (q 2), .ref (q 3), .ref (q 4), .int (Ta_turns v), .int (Ta_points v), .int (Ta_alarms v), .int (Ta_alarmsSincePoint v), .int (Ta_greatestAhead v), .int (Ta_aheadSum v), .int (Ta_leaderTurns v), .int (Ta_trailerTurns v), .int (Ta_comparedSteps v)]), ((q 1), aI K 8 (Ta_alarmSort v)), ((q 2), aI K 8 (Ta_alarmTurn v)), ((q 3), aI K 8 (Ta_alarmLeaderSteps v)), ((q 4), aI K 8 (Ta_alarmTrailerSteps v))]) rfl ?_
  refine r_aload_n (pc := 0) cx dX8_addAlarm_0 0 rfl ?_
  refine r_get (pc := 1) cx cf_X8 0 6 rfl (by decide) rfl wd_439 dX8_addAlarm_1 ?_
  refine r_bipush (pc := 4) cx dX8_addAlarm_4 bp_7 ?_
  refine r_iand (pc := 6) cx dX8_addAlarm_6 ?_
  replace hf := nm_of hf
  obtain ⟨x1, ex1, hf⟩ := hf
  refine r_nm ex1 ?_
  refine r_istore (pc := 7) (loc' := [(4, .int x1), (0, .ref (q 0)), (1, .int a1), (2, .int a2), (3, .int a3)]) cx dX8_addAlarm_7 (by decide) rfl ?_
  refine r_aload_n (pc := 9) cx dX8_addAlarm_9 1 rfl ?_
  refine r_get (pc := 10) cx cf_X8 0 0 rfl (by decide) rfl wd_430 dX8_addAlarm_10 ?_
  refine r_iload (pc := 13) cx dX8_addAlarm_13 0 rfl ?_
  refine r_iload_n (pc := 15) cx dX8_addAlarm_15 2 rfl ?_
  replace hf := nm_of hf
  obtain ⟨f2, ef2, hf⟩ := hf
  refine r_iast (pc := 16) (ws' := [((q 0), ob 7 [.ref (q 1), .ref (q 2), .ref (q 3), .ref (q 4), .int (Ta_turns v), .int (Ta_points v), .int (Ta_alarms v), .int (Ta_alarmsSincePoint v), .int (Ta_greatestAhead v), .int (Ta_aheadSum v), .int (Ta_leaderTurns v), .int (Ta_trailerTurns v), .int (Ta_comparedSteps v)]), ((q 1), aI K 8 f2), ((q 2), aI K 8 (Ta_alarmTurn v)), ((q 3), aI K 8 (Ta_alarmLeaderSteps v)), ((q 4), aI K 8 (Ta_alarmTrailerSteps v))]) cx 1 rfl (by rw [ex1]; exact ix_and7 _) dX8_addAlarm_16 ef2 rfl ?_
  refine r_aload_n (pc := 17) cx dX8_addAlarm_17 1 rfl ?_
  refine r_get (pc := 18) cx cf_X8 0 1 rfl (by decide) rfl wd_431 dX8_addAlarm_18 ?_
  refine r_iload (pc := 21) cx dX8_addAlarm_21 0 rfl ?_
  refine r_aload_n (pc := 23) cx dX8_addAlarm_23 1 rfl ?_
  refine r_get (pc := 24) cx cf_X8 0 4 rfl (by decide) rfl wd_434 dX8_addAlarm_24 ?_
  replace hf := nm_of hf
  obtain ⟨x3, ex3, hf⟩ := hf
  refine r_nm ex3 ?_
  replace hf := nm_of hf
  obtain ⟨f4, ef4, hf⟩ := hf
  refine r_iast (pc := 27) (ws' := [((q 0), ob 7 [.ref (q 1), .ref (q 2), .ref (q 3), .ref (q 4), .int (Ta_turns v), .int (Ta_points v), .int (Ta_alarms v), .int (Ta_alarmsSincePoint v), .int (Ta_greatestAhead v), .int (Ta_aheadSum v), .int (Ta_leaderTurns v), .int (Ta_trailerTurns v), .int (Ta_comparedSteps v)]), ((q 1), aI K 8 f2), ((q 2), aI K 8 f4), ((q 3), aI K 8 (Ta_alarmLeaderSteps v)), ((q 4), aI K 8 (Ta_alarmTrailerSteps v))]) cx 2 rfl (by rw [ex1]; exact ix_and7 _) dX8_addAlarm_27 ef4 rfl ?_
  refine r_aload_n (pc := 28) cx dX8_addAlarm_28 1 rfl ?_
  refine r_get (pc := 29) cx cf_X8 0 2 rfl (by decide) rfl wd_432 dX8_addAlarm_29 ?_
  refine r_iload (pc := 32) cx dX8_addAlarm_32 0 rfl ?_
  refine r_iload_n (pc := 34) cx dX8_addAlarm_34 3 rfl ?_
  replace hf := nm_of hf
  obtain ⟨f5, ef5, hf⟩ := hf
  refine r_iast (pc := 35) (ws' := [((q 0), ob 7 [.ref (q 1), .ref (q 2), .ref (q 3), .ref (q 4), .int (Ta_turns v), .int (Ta_points v), .int (Ta_alarms v), .int (Ta_alarmsSincePoint v), .int (Ta_greatestAhead v), .int (Ta_aheadSum v), .int (Ta_leaderTurns v), .int (Ta_trailerTurns v), .int (Ta_comparedSteps v)]), ((q 1), aI K 8 f2), ((q 2), aI K 8 f4), ((q 3), aI K 8 f5), ((q 4), aI K 8 (Ta_alarmTrailerSteps v))]) cx 3 rfl (by rw [ex1]; exact ix_and7 _) dX8_addAlarm_35 ef5 rfl ?_
  refine r_aload_n (pc := 36) cx dX8_addAlarm_36 1 rfl ?_
  refine r_get (pc := 37) cx cf_X8 0 3 rfl (by decide) rfl wd_433 dX8_addAlarm_37 ?_
  refine r_iload (pc := 40) cx dX8_addAlarm_40 0 rfl ?_
  refine r_iload_n (pc := 42) cx dX8_addAlarm_42 4 rfl ?_
  replace hf := nm_of hf
  obtain ⟨f6, ef6, hf⟩ := hf
  refine r_iast (pc := 43) (ws' := [((q 0), ob 7 [.ref (q 1), .ref (q 2), .ref (q 3), .ref (q 4), .int (Ta_turns v), .int (Ta_points v), .int (Ta_alarms v), .int (Ta_alarmsSincePoint v), .int (Ta_greatestAhead v), .int (Ta_aheadSum v), .int (Ta_leaderTurns v), .int (Ta_trailerTurns v), .int (Ta_comparedSteps v)]), ((q 1), aI K 8 f2), ((q 2), aI K 8 f4), ((q 3), aI K 8 f5), ((q 4), aI K 8 f6)]) cx 4 rfl (by rw [ex1]; exact ix_and7 _) dX8_addAlarm_43 ef6 rfl ?_
  refine r_aload_n (pc := 44) cx dX8_addAlarm_44 1 rfl ?_
  refine r_dup (pc := 45) cx dX8_addAlarm_45 rfl ?_
  refine r_get (pc := 46) cx cf_X8 0 6 rfl (by decide) rfl wd_439 dX8_addAlarm_46 ?_
  refine r_iconst (pc := 49) cx dX8_addAlarm_49 ic_1 ?_
  refine r_iadd (pc := 50) cx dX8_addAlarm_50 ?_
  replace hf := nm_of hf
  obtain ⟨x7, ex7, hf⟩ := hf
  refine r_nm ex7 ?_
  refine r_putI (pc := 51) (ws' := [((q 0), ob 7 [.ref (q 1), .ref (q 2), .ref (q 3), .ref (q 4), .int (Ta_turns v), .int (Ta_points v), .int x7, .int (Ta_alarmsSincePoint v), .int (Ta_greatestAhead v), .int (Ta_aheadSum v), .int (Ta_leaderTurns v), .int (Ta_trailerTurns v), .int (Ta_comparedSteps v)]), ((q 1), aI K 8 f2), ((q 2), aI K 8 f4), ((q 3), aI K 8 f5), ((q 4), aI K 8 f6)]) cx cf_X8 0 6 rfl (by decide) (Nat.le_of_ble_eq_true rfl) rfl pfd_I wd_439 dX8_addAlarm_51 rfl ?_
  refine r_aload_n (pc := 54) cx dX8_addAlarm_54 1 rfl ?_
  refine r_dup (pc := 55) cx dX8_addAlarm_55 rfl ?_
  refine r_get (pc := 56) cx cf_X8 0 7 rfl (by decide) rfl wd_441 dX8_addAlarm_56 ?_
  refine r_iconst (pc := 59) cx dX8_addAlarm_59 ic_1 ?_
  refine r_iadd (pc := 60) cx dX8_addAlarm_60 ?_
  replace hf := nm_of hf
  obtain ⟨x8, ex8, hf⟩ := hf
  refine r_nm ex8 ?_
  refine r_putI (pc := 61) (ws' := [((q 0), ob 7 [.ref (q 1), .ref (q 2), .ref (q 3), .ref (q 4), .int (Ta_turns v), .int (Ta_points v), .int x7, .int x8, .int (Ta_greatestAhead v), .int (Ta_aheadSum v), .int (Ta_leaderTurns v), .int (Ta_trailerTurns v), .int (Ta_comparedSteps v)]), ((q 1), aI K 8 f2), ((q 2), aI K 8 f4), ((q 3), aI K 8 f5), ((q 4), aI K 8 f6)]) cx cf_X8 0 7 rfl (by decide) (Nat.le_of_ble_eq_true rfl) rfl pfd_I wd_441 dX8_addAlarm_61 rfl ?_
  have hi := inj1 hf
  exact r_vret (pc := 64) cx (by rw [← hi]; (try simp only [cl_Ta, Ta_alarmSort_mk, Ta_alarmTurn_mk, Ta_alarmLeaderSteps_mk, Ta_alarmTrailerSteps_mk, Ta_turns_mk, Ta_points_mk, Ta_alarms_mk, Ta_alarmsSincePoint_mk, Ta_greatestAhead_mk, Ta_aheadSum_mk, Ta_leaderTurns_mk, Ta_trailerTurns_mk, Ta_comparedSteps_mk, List.cons_append, List.nil_append, List.append_nil]) <;> rfl) dX8_addAlarm_64
theorem yv_X8_addAlarm : YV yX8_addAlarm cX8_addAlarm 5 (none) 3 := ⟨⟨by decide +kernel, by decide +kernel, by decide +kernel⟩, wd_915, wd_99, wd_913, wd_914⟩
abbrev rm_Ta_alarmPart : Room := { frames := 0, cells := 0, slots := 0, locals := 0 }
set_option maxRecDepth 100000 in
set_option maxHeartbeats 4000000 in
theorem m_Ta_alarmPart (l : Launch) (D : va_G) (K : Nat → ClassId) (q : Nat → Nat) (v : T_Ta) (a1 : Int32) (a2 : Int32) {r_ : Int32} (hf : f_Ta_alarmPart v a1 a2 = some r_) : MI l yX8_alarmPart cX8_alarmPart 4 (some .int) rm_Ta_alarmPart D K [.ref (q 0), .int a1, .int a2] (cl_Ta K q v) r_ (cl_Ta K q v) := by
  refine MI_of (loc0 := [(0, .ref (q 0)), (1, .int a1), (2, .int a2)]) (by decide +kernel) rfl (Nat.le_of_ble_eq_true rfl) ?_
  intro p e s m args below meth c A cx
  unfold f_Ta_alarmPart at hf
  refine r_ws (ws' := [((q 0), ob 7 [.ref (q 1), .ref (q 2), .ref (q 3), .ref (q 4), .int (Ta_turns v), .int (Ta_points v), .int (Ta_alarms v), .int (Ta_alarmsSincePoint v), .int (Ta_greatestAhead v), .int (Ta_aheadSum v), .int (Ta_leaderTurns v), .int (Ta_trailerTurns v), .int (Ta_comparedSteps v)]), ((q 1), aI K 8 (Ta_alarmSort v)), ((q 2), aI K 8 (Ta_alarmTurn v)), ((q 3), aI K 8 (Ta_alarmLeaderSteps v)), ((q 4), aI K 8 (Ta_alarmTrailerSteps v))]) rfl ?_
  refine r_iload_n (pc := 0) cx dX8_alarmPart_0 1 rfl ?_
  refine r_if_lt (pc := 1) (tgt := 18) cx dX8_alarmPart_1 (by decide) (fun h1 => ?_) (fun h1 => ?_)
  · replace hf := ifp h1 hf
    refine r_iconst (pc := 18) cx dX8_alarmPart_18 ic_m1 ?_
    have hi := inj1 hf
    exact r_iret (pc := 19) cx hi rfl dX8_alarmPart_19
  · replace hf := ifn h1 hf
    refine r_iload_n (pc := 4) cx dX8_alarmPart_4 1 rfl ?_
    refine r_aload_n (pc := 5) cx dX8_alarmPart_5 0 rfl ?_
    refine r_get (pc := 6) cx cf_X8 0 6 rfl (by decide) rfl wd_439 dX8_alarmPart_6 ?_
    refine r_icmp_ge (pc := 9) (tgt := 18) cx dX8_alarmPart_9 (by decide) (fun h2 => ?_) (fun h2 => ?_)
    · replace hf := ifp h2 hf
      refine r_iconst (pc := 18) cx dX8_alarmPart_18 ic_m1 ?_
      have hi := inj1 hf
      exact r_iret (pc := 19) cx hi rfl dX8_alarmPart_19
    · replace hf := ifn h2 hf
      refine r_iload_n (pc := 12) cx dX8_alarmPart_12 1 rfl ?_
      refine r_bipush (pc := 13) cx dX8_alarmPart_13 bp_7 ?_
      refine r_icmp_le (pc := 15) (tgt := 20) cx dX8_alarmPart_15 (by decide) (fun h3 => ?_) (fun h3 => ?_)
      · replace hf := ifp h3 hf
        refine r_aload_n (pc := 20) cx dX8_alarmPart_20 0 rfl ?_
        refine r_get (pc := 21) cx cf_X8 0 6 rfl (by decide) rfl wd_439 dX8_alarmPart_21 ?_
        refine r_iconst (pc := 24) cx dX8_alarmPart_24 ic_1 ?_
        refine r_isub (pc := 25) cx dX8_alarmPart_25 ?_
        refine r_iload_n (pc := 26) cx dX8_alarmPart_26 1 rfl ?_
        refine r_isub (pc := 27) cx dX8_alarmPart_27 ?_
        refine r_bipush (pc := 28) cx dX8_alarmPart_28 bp_7 ?_
        refine r_iand (pc := 30) cx dX8_alarmPart_30 ?_
        replace hf := nm_of hf
        obtain ⟨x4, ex4, hf⟩ := hf
        refine r_nm ex4 ?_
        refine r_istore_n (pc := 31) (loc' := [(3, .int x4), (0, .ref (q 0)), (1, .int a1), (2, .int a2)]) cx dX8_alarmPart_31 rfl (by decide) rfl ?_
        refine r_iload_n (pc := 32) cx dX8_alarmPart_32 3 rfl ?_
        by_cases h5 : a2 = (0 : Int32)
        · replace hf := ifp h5 hf
          refine r_tin (pc := 33) (tgt := 64) cx (0 : Int32) h5 dX8_alarmPart_33 (by decide) (by decide) rfl (by decide) ?_
          refine r_aload_n (pc := 64) cx dX8_alarmPart_64 1 rfl ?_
          refine r_get (pc := 65) cx cf_X8 0 0 rfl (by decide) rfl wd_430 dX8_alarmPart_65 ?_
          refine r_iload_n (pc := 68) cx dX8_alarmPart_68 0 rfl ?_
          refine r_iald (pc := 69) cx 1 rfl (by rw [ex4]; exact ix_and7 _) dX8_alarmPart_69 ?_
          have hi := inj1 hf
          exact r_iret (pc := 70) cx hi rfl dX8_alarmPart_70
        · replace hf := ifn h5 hf
          by_cases h6 : a2 = (1 : Int32)
          · replace hf := ifp h6 hf
            refine r_tin (pc := 33) (tgt := 71) cx (1 : Int32) h6 dX8_alarmPart_33 (by decide) (by decide) rfl (by decide) ?_
            refine r_aload_n (pc := 71) cx dX8_alarmPart_71 1 rfl ?_
            refine r_get (pc := 72) cx cf_X8 0 1 rfl (by decide) rfl wd_431 dX8_alarmPart_72 ?_
            refine r_iload_n (pc := 75) cx dX8_alarmPart_75 0 rfl ?_
            refine r_iald (pc := 76) cx 2 rfl (by rw [ex4]; exact ix_and7 _) dX8_alarmPart_76 ?_
            have hi := inj1 hf
            exact r_iret (pc := 77) cx hi rfl dX8_alarmPart_77
          · replace hf := ifn h6 hf
            by_cases h7 : a2 = (2 : Int32)
            · replace hf := ifp h7 hf
              refine r_tin (pc := 33) (tgt := 78) cx (2 : Int32) h7 dX8_alarmPart_33 (by decide) (by decide) rfl (by decide) ?_
              refine r_aload_n (pc := 78) cx dX8_alarmPart_78 1 rfl ?_
              refine r_get (pc := 79) cx cf_X8 0 2 rfl (by decide) rfl wd_432 dX8_alarmPart_79 ?_
              refine r_iload_n (pc := 82) cx dX8_alarmPart_82 0 rfl ?_
              refine r_iald (pc := 83) cx 3 rfl (by rw [ex4]; exact ix_and7 _) dX8_alarmPart_83 ?_
              have hi := inj1 hf
              exact r_iret (pc := 84) cx hi rfl dX8_alarmPart_84
            · replace hf := ifn h7 hf
              by_cases h8 : a2 = (3 : Int32)
              · replace hf := ifp h8 hf
                refine r_tin (pc := 33) (tgt := 85) cx (3 : Int32) h8 dX8_alarmPart_33 (by decide) (by decide) rfl (by decide) ?_
                refine r_aload_n (pc := 85) cx dX8_alarmPart_85 1 rfl ?_
                refine r_get (pc := 86) cx cf_X8 0 3 rfl (by decide) rfl wd_433 dX8_alarmPart_86 ?_
                refine r_iload_n (pc := 89) cx dX8_alarmPart_89 0 rfl ?_
                refine r_iald (pc := 90) cx 4 rfl (by rw [ex4]; exact ix_and7 _) dX8_alarmPart_90 ?_
                have hi := inj1 hf
                exact r_iret (pc := 91) cx hi rfl dX8_alarmPart_91
              · replace hf := ifn h8 hf
                refine r_tout (pc := 33) (tgt := 92) cx dX8_alarmPart_33 (by
                  have nh5 := toInt_ne h5
                  have mh5 : (0 : Int32).toInt = 0 := by decide
                  rw [mh5] at nh5
                  have nh6 := toInt_ne h6
                  have mh6 : (1 : Int32).toInt = 1 := by decide
                  rw [mh6] at nh6
                  have nh7 := toInt_ne h7
                  have mh7 : (2 : Int32).toInt = 2 := by decide
                  rw [mh7] at nh7
                  have nh8 := toInt_ne h8
                  have mh8 : (3 : Int32).toInt = 3 := by decide
                  rw [mh8] at nh8
                  omega) (by decide) ?_
                refine r_iconst (pc := 92) cx dX8_alarmPart_92 ic_m1 ?_
                have hi := inj1 hf
                exact r_iret (pc := 93) cx hi rfl dX8_alarmPart_93
      · replace hf := ifn h3 hf
        refine r_iconst (pc := 18) cx dX8_alarmPart_18 ic_m1 ?_
        have hi := inj1 hf
        exact r_iret (pc := 19) cx hi rfl dX8_alarmPart_19
theorem yv_X8_alarmPart : YV yX8_alarmPart cX8_alarmPart 4 (some .int) 2 := ⟨⟨by decide +kernel, by decide +kernel, by decide +kernel⟩, wd_997, wd_99, wd_995, wd_996⟩
abbrev rm_Ta_part : Room := { frames := 0, cells := 0, slots := 0, locals := 0 }
set_option maxRecDepth 100000 in
set_option maxHeartbeats 4000000 in
theorem m_Ta_part (l : Launch) (D : va_G) (K : Nat → ClassId) (q : Nat → Nat) (v : T_Ta) (a1 : Int32) {r_ : Int32} (hf : f_Ta_part v a1 = some r_) : MI l yX8_part cX8_part 2 (some .int) rm_Ta_part D K [.ref (q 0), .int a1] (cl_Ta K q v) r_ (cl_Ta K q v) := by
  refine MI_of (loc0 := [(0, .ref (q 0)), (1, .int a1)]) (by decide +kernel) rfl (Nat.le_of_ble_eq_true rfl) ?_
  intro p e s m args below meth c A cx
  unfold f_Ta_part at hf
  refine r_ws (ws' := [((q 0), ob 7 [.ref (q 1), .ref (q 2), .ref (q 3), .ref (q 4), .int (Ta_turns v), .int (Ta_points v), .int (Ta_alarms v), .int (Ta_alarmsSincePoint v), .int (Ta_greatestAhead v), .int (Ta_aheadSum v), .int (Ta_leaderTurns v), .int (Ta_trailerTurns v), .int (Ta_comparedSteps v)]), ((q 1), aI K 8 (Ta_alarmSort v)), ((q 2), aI K 8 (Ta_alarmTurn v)), ((q 3), aI K 8 (Ta_alarmLeaderSteps v)), ((q 4), aI K 8 (Ta_alarmTrailerSteps v))]) rfl ?_
  refine r_iload_n (pc := 0) cx dX8_part_0 1 rfl ?_
  by_cases h1 : a1 = (1 : Int32)
  · replace hf := ifp h1 hf
    refine r_tin (pc := 1) (tgt := 80) cx (1 : Int32) h1 dX8_part_1 (by decide) (by decide) rfl (by decide) ?_
    refine r_aload_n (pc := 80) cx dX8_part_80 0 rfl ?_
    refine r_get (pc := 81) cx cf_X8 0 4 rfl (by decide) rfl wd_434 dX8_part_81 ?_
    have hi := inj1 hf
    exact r_iret (pc := 84) cx hi rfl dX8_part_84
  · replace hf := ifn h1 hf
    by_cases h2 : a1 = (2 : Int32)
    · replace hf := ifp h2 hf
      refine r_tin (pc := 1) (tgt := 85) cx (2 : Int32) h2 dX8_part_1 (by decide) (by decide) rfl (by decide) ?_
      refine r_aload_n (pc := 85) cx dX8_part_85 0 rfl ?_
      refine r_get (pc := 86) cx cf_X8 0 5 rfl (by decide) rfl wd_437 dX8_part_86 ?_
      have hi := inj1 hf
      exact r_iret (pc := 89) cx hi rfl dX8_part_89
    · replace hf := ifn h2 hf
      by_cases h3 : a1 = (3 : Int32)
      · replace hf := ifp h3 hf
        refine r_tin (pc := 1) (tgt := 90) cx (3 : Int32) h3 dX8_part_1 (by decide) (by decide) rfl (by decide) ?_
        refine r_aload_n (pc := 90) cx dX8_part_90 0 rfl ?_
        refine r_get (pc := 91) cx cf_X8 0 6 rfl (by decide) rfl wd_439 dX8_part_91 ?_
        have hi := inj1 hf
        exact r_iret (pc := 94) cx hi rfl dX8_part_94
      · replace hf := ifn h3 hf
        by_cases h4 : a1 = (4 : Int32)
        · replace hf := ifp h4 hf
          refine r_tin (pc := 1) (tgt := 95) cx (4 : Int32) h4 dX8_part_1 (by decide) (by decide) rfl (by decide) ?_
          refine r_aload_n (pc := 95) cx dX8_part_95 0 rfl ?_
          refine r_get (pc := 96) cx cf_X8 0 7 rfl (by decide) rfl wd_441 dX8_part_96 ?_
          have hi := inj1 hf
          exact r_iret (pc := 99) cx hi rfl dX8_part_99
        · replace hf := ifn h4 hf
          by_cases h6 : a1 = (5 : Int32)
          · replace hf := ifp h6 hf
            refine r_tin (pc := 1) (tgt := 115) cx (5 : Int32) h6 dX8_part_1 (by decide) (by decide) rfl (by decide) ?_
            refine r_iconst (pc := 115) cx dX8_part_115 ic_m1 ?_
            have hi := inj1 hf
            exact r_iret (pc := 116) cx hi rfl dX8_part_116
          · replace hf := ifn h6 hf
            by_cases h7 : a1 = (6 : Int32)
            · replace hf := ifp h7 hf
              refine r_tin (pc := 1) (tgt := 100) cx (6 : Int32) h7 dX8_part_1 (by decide) (by decide) rfl (by decide) ?_
              refine r_aload_n (pc := 100) cx dX8_part_100 0 rfl ?_
              refine r_get (pc := 101) cx cf_X8 0 8 rfl (by decide) rfl wd_443 dX8_part_101 ?_
              have hi := inj1 hf
              exact r_iret (pc := 104) cx hi rfl dX8_part_104
            · replace hf := ifn h7 hf
              by_cases h9 : a1 = (7 : Int32)
              · replace hf := ifp h9 hf
                refine r_tin (pc := 1) (tgt := 115) cx (7 : Int32) h9 dX8_part_1 (by decide) (by decide) rfl (by decide) ?_
                refine r_iconst (pc := 115) cx dX8_part_115 ic_m1 ?_
                have hi := inj1 hf
                exact r_iret (pc := 116) cx hi rfl dX8_part_116
              · replace hf := ifn h9 hf
                by_cases h11 : a1 = (8 : Int32)
                · replace hf := ifp h11 hf
                  refine r_tin (pc := 1) (tgt := 115) cx (8 : Int32) h11 dX8_part_1 (by decide) (by decide) rfl (by decide) ?_
                  refine r_iconst (pc := 115) cx dX8_part_115 ic_m1 ?_
                  have hi := inj1 hf
                  exact r_iret (pc := 116) cx hi rfl dX8_part_116
                · replace hf := ifn h11 hf
                  by_cases h13 : a1 = (9 : Int32)
                  · replace hf := ifp h13 hf
                    refine r_tin (pc := 1) (tgt := 115) cx (9 : Int32) h13 dX8_part_1 (by decide) (by decide) rfl (by decide) ?_
                    refine r_iconst (pc := 115) cx dX8_part_115 ic_m1 ?_
                    have hi := inj1 hf
                    exact r_iret (pc := 116) cx hi rfl dX8_part_116
                  · replace hf := ifn h13 hf
                    by_cases h15 : a1 = (10 : Int32)
                    · replace hf := ifp h15 hf
                      refine r_tin (pc := 1) (tgt := 115) cx (10 : Int32) h15 dX8_part_1 (by decide) (by decide) rfl (by decide) ?_
                      refine r_iconst (pc := 115) cx dX8_part_115 ic_m1 ?_
                      have hi := inj1 hf
                      exact r_iret (pc := 116) cx hi rfl dX8_part_116
                    · replace hf := ifn h15 hf
                      by_cases h17 : a1 = (11 : Int32)
                      · replace hf := ifp h17 hf
                        refine r_tin (pc := 1) (tgt := 115) cx (11 : Int32) h17 dX8_part_1 (by decide) (by decide) rfl (by decide) ?_
                        refine r_iconst (pc := 115) cx dX8_part_115 ic_m1 ?_
                        have hi := inj1 hf
                        exact r_iret (pc := 116) cx hi rfl dX8_part_116
                      · replace hf := ifn h17 hf
                        by_cases h19 : a1 = (12 : Int32)
                        · replace hf := ifp h19 hf
                          refine r_tin (pc := 1) (tgt := 115) cx (12 : Int32) h19 dX8_part_1 (by decide) (by decide) rfl (by decide) ?_
                          refine r_iconst (pc := 115) cx dX8_part_115 ic_m1 ?_
                          have hi := inj1 hf
                          exact r_iret (pc := 116) cx hi rfl dX8_part_116
                        · replace hf := ifn h19 hf
                          by_cases h21 : a1 = (13 : Int32)
                          · replace hf := ifp h21 hf
                            refine r_tin (pc := 1) (tgt := 115) cx (13 : Int32) h21 dX8_part_1 (by decide) (by decide) rfl (by decide) ?_
                            refine r_iconst (pc := 115) cx dX8_part_115 ic_m1 ?_
                            have hi := inj1 hf
                            exact r_iret (pc := 116) cx hi rfl dX8_part_116
                          · replace hf := ifn h21 hf
                            by_cases h23 : a1 = (14 : Int32)
                            · replace hf := ifp h23 hf
                              refine r_tin (pc := 1) (tgt := 115) cx (14 : Int32) h23 dX8_part_1 (by decide) (by decide) rfl (by decide) ?_
                              refine r_iconst (pc := 115) cx dX8_part_115 ic_m1 ?_
                              have hi := inj1 hf
                              exact r_iret (pc := 116) cx hi rfl dX8_part_116
                            · replace hf := ifn h23 hf
                              by_cases h24 : a1 = (15 : Int32)
                              · replace hf := ifp h24 hf
                                refine r_tin (pc := 1) (tgt := 105) cx (15 : Int32) h24 dX8_part_1 (by decide) (by decide) rfl (by decide) ?_
                                refine r_aload_n (pc := 105) cx dX8_part_105 0 rfl ?_
                                refine r_get (pc := 106) cx cf_X8 0 10 rfl (by decide) rfl wd_448 dX8_part_106 ?_
                                have hi := inj1 hf
                                exact r_iret (pc := 109) cx hi rfl dX8_part_109
                              · replace hf := ifn h24 hf
                                by_cases h25 : a1 = (16 : Int32)
                                · replace hf := ifp h25 hf
                                  refine r_tin (pc := 1) (tgt := 110) cx (16 : Int32) h25 dX8_part_1 (by decide) (by decide) rfl (by decide) ?_
                                  refine r_aload_n (pc := 110) cx dX8_part_110 0 rfl ?_
                                  refine r_get (pc := 111) cx cf_X8 0 11 rfl (by decide) rfl wd_450 dX8_part_111 ?_
                                  have hi := inj1 hf
                                  exact r_iret (pc := 114) cx hi rfl dX8_part_114
                                · replace hf := ifn h25 hf
                                  refine r_tout (pc := 1) (tgt := 115) cx dX8_part_1 (by
                                    have nh1 := toInt_ne h1
                                    have mh1 : (1 : Int32).toInt = 1 := by decide
                                    rw [mh1] at nh1
                                    have nh2 := toInt_ne h2
                                    have mh2 : (2 : Int32).toInt = 2 := by decide
                                    rw [mh2] at nh2
                                    have nh3 := toInt_ne h3
                                    have mh3 : (3 : Int32).toInt = 3 := by decide
                                    rw [mh3] at nh3
                                    have nh4 := toInt_ne h4
                                    have mh4 : (4 : Int32).toInt = 4 := by decide
                                    rw [mh4] at nh4
                                    have nh6 := toInt_ne h6
                                    have mh6 : (5 : Int32).toInt = 5 := by decide
                                    rw [mh6] at nh6
                                    have nh7 := toInt_ne h7
                                    have mh7 : (6 : Int32).toInt = 6 := by decide
                                    rw [mh7] at nh7
                                    have nh9 := toInt_ne h9
                                    have mh9 : (7 : Int32).toInt = 7 := by decide
                                    rw [mh9] at nh9
                                    have nh11 := toInt_ne h11
                                    have mh11 : (8 : Int32).toInt = 8 := by decide
                                    rw [mh11] at nh11
                                    have nh13 := toInt_ne h13
                                    have mh13 : (9 : Int32).toInt = 9 := by decide
                                    rw [mh13] at nh13
                                    have nh15 := toInt_ne h15
                                    have mh15 : (10 : Int32).toInt = 10 := by decide
                                    rw [mh15] at nh15
                                    have nh17 := toInt_ne h17
                                    have mh17 : (11 : Int32).toInt = 11 := by decide
                                    rw [mh17] at nh17
                                    have nh19 := toInt_ne h19
                                    have mh19 : (12 : Int32).toInt = 12 := by decide
                                    rw [mh19] at nh19
                                    have nh21 := toInt_ne h21
                                    have mh21 : (13 : Int32).toInt = 13 := by decide
                                    rw [mh21] at nh21
                                    have nh23 := toInt_ne h23
                                    have mh23 : (14 : Int32).toInt = 14 := by decide
                                    rw [mh23] at nh23
                                    have nh24 := toInt_ne h24
                                    have mh24 : (15 : Int32).toInt = 15 := by decide
                                    rw [mh24] at nh24
                                    have nh25 := toInt_ne h25
                                    have mh25 : (16 : Int32).toInt = 16 := by decide
                                    rw [mh25] at nh25
                                    omega) (by decide) ?_
                                  refine r_iconst (pc := 115) cx dX8_part_115 ic_m1 ?_
                                  have hi := inj1 hf
                                  exact r_iret (pc := 116) cx hi rfl dX8_part_116
theorem yv_X8_part : YV yX8_part cX8_part 2 (some .int) 1 := ⟨⟨by decide +kernel, by decide +kernel, by decide +kernel⟩, wd_1192, wd_99, wd_1190, wd_1191⟩
