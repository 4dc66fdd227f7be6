abbrev rm_J_bitCount_0f7a4 : Room := { frames := 0, cells := 0, slots := 0, locals := 0 }
set_option maxRecDepth 100000 in
set_option maxHeartbeats 4000000 in
theorem m_J_bitCount_0f7a4 (l : Launch) (D : va_G) (K : Nat → ClassId) (a0 : Int32) {r_ : Int32} (hf : f_J_bitCount_0f7a4 a0 = some r_) : MI l yJ6_bitCount_0f7a4 cJ6_bitCount_0f7a4 1 (some .int) rm_J_bitCount_0f7a4 D K [.int a0] ([]) r_ ([]) := by
  refine MI_of (loc0 := [(0, .int a0)]) (by decide +kernel) rfl (Nat.le_of_ble_eq_true rfl) ?_
  intro p e s m args below meth c A cx
  unfold f_J_bitCount_0f7a4 at hf
  refine r_ws (ws' := []) rfl ?_
  refine r_iload_n (pc := 0) cx dJ6_bitCount_0f7a4_0 0 rfl ?_
  refine r_iload_n (pc := 1) cx dJ6_bitCount_0f7a4_1 0 rfl ?_
  refine r_iconst (pc := 2) cx dJ6_bitCount_0f7a4_2 ic_1 ?_
  refine r_iushr (pc := 3) cx dJ6_bitCount_0f7a4_3 ?_
  refine r_ldcw (pc := 4) cx dJ6_bitCount_0f7a4_4 wd_1121 ?_
  refine r_iand (pc := 7) cx dJ6_bitCount_0f7a4_7 ?_
  refine r_isub (pc := 8) cx dJ6_bitCount_0f7a4_8 ?_
  replace hf := nm_of hf
  obtain ⟨x1, ex1, hf⟩ := hf
  refine r_nm ex1 ?_
  refine r_istore_n (pc := 9) (loc' := [(0, .int x1)]) cx dJ6_bitCount_0f7a4_9 rfl (by decide) rfl ?_
  refine r_iload_n (pc := 10) cx dJ6_bitCount_0f7a4_10 0 rfl ?_
  refine r_ldcw (pc := 11) cx dJ6_bitCount_0f7a4_11 wd_1122 ?_
  refine r_iand (pc := 14) cx dJ6_bitCount_0f7a4_14 ?_
  refine r_iload_n (pc := 15) cx dJ6_bitCount_0f7a4_15 0 rfl ?_
  refine r_iconst (pc := 16) cx dJ6_bitCount_0f7a4_16 ic_2 ?_
  refine r_iushr (pc := 17) cx dJ6_bitCount_0f7a4_17 ?_
  refine r_ldcw (pc := 18) cx dJ6_bitCount_0f7a4_18 wd_1122 ?_
  refine r_iand (pc := 21) cx dJ6_bitCount_0f7a4_21 ?_
  refine r_iadd (pc := 22) cx dJ6_bitCount_0f7a4_22 ?_
  replace hf := nm_of hf
  obtain ⟨x2, ex2, hf⟩ := hf
  refine r_nm ex2 ?_
  refine r_istore_n (pc := 23) (loc' := [(0, .int x2)]) cx dJ6_bitCount_0f7a4_23 rfl (by decide) rfl ?_
  refine r_iload_n (pc := 24) cx dJ6_bitCount_0f7a4_24 0 rfl ?_
  refine r_iload_n (pc := 25) cx dJ6_bitCount_0f7a4_25 0 rfl ?_
  refine r_iconst (pc := 26) cx dJ6_bitCount_0f7a4_26 ic_4 ?_
  refine r_iushr (pc := 27) cx dJ6_bitCount_0f7a4_27 ?_
  refine r_iadd (pc := 28) cx dJ6_bitCount_0f7a4_28 ?_
  refine r_ldcw (pc := 29) cx dJ6_bitCount_0f7a4_29 wd_1123 ?_
  refine r_iand (pc := 32) cx dJ6_bitCount_0f7a4_32 ?_
  replace hf := nm_of hf
  obtain ⟨x3, ex3, hf⟩ := hf
  refine r_nm ex3 ?_
  refine r_istore_n (pc := 33) (loc' := [(0, .int x3)]) cx dJ6_bitCount_0f7a4_33 rfl (by decide) rfl ?_
  refine r_iload_n (pc := 34) cx dJ6_bitCount_0f7a4_34 0 rfl ?_
  refine r_iload_n (pc := 35) cx dJ6_bitCount_0f7a4_35 0 rfl ?_
  refine r_bipush (pc := 36) cx dJ6_bitCount_0f7a4_36 bp_8 ?_
  refine r_iushr (pc := 38) cx dJ6_bitCount_0f7a4_38 ?_
  refine r_iadd (pc := 39) cx dJ6_bitCount_0f7a4_39 ?_
  replace hf := nm_of hf
  obtain ⟨x4, ex4, hf⟩ := hf
  refine r_nm ex4 ?_
  refine r_istore_n (pc := 40) (loc' := [(0, .int x4)]) cx dJ6_bitCount_0f7a4_40 rfl (by decide) rfl ?_
  refine r_iload_n (pc := 41) cx dJ6_bitCount_0f7a4_41 0 rfl ?_
  refine r_iload_n (pc := 42) cx dJ6_bitCount_0f7a4_42 0 rfl ?_
  refine r_bipush (pc := 43) cx dJ6_bitCount_0f7a4_43 bp_16 ?_
  refine r_iushr (pc := 45) cx dJ6_bitCount_0f7a4_45 ?_
  refine r_iadd (pc := 46) cx dJ6_bitCount_0f7a4_46 ?_
  replace hf := nm_of hf
  obtain ⟨x5, ex5, hf⟩ := hf
  refine r_nm ex5 ?_
  refine r_istore_n (pc := 47) (loc' := [(0, .int x5)]) cx dJ6_bitCount_0f7a4_47 rfl (by decide) rfl ?_
  refine r_iload_n (pc := 48) cx dJ6_bitCount_0f7a4_48 0 rfl ?_
  refine r_bipush (pc := 49) cx dJ6_bitCount_0f7a4_49 bp_63 ?_
  refine r_iand (pc := 51) cx dJ6_bitCount_0f7a4_51 ?_
  have hi := inj1 hf
  exact r_iret (pc := 52) cx hi rfl dJ6_bitCount_0f7a4_52
theorem ys_J6_bitCount_0f7a4 : YS yJ6_bitCount_0f7a4 cJ6_bitCount_0f7a4 1 (some .int) 1 := ⟨⟨by decide +kernel, by decide +kernel, by decide +kernel⟩, wd_1120, wd_107, wd_1119⟩
abbrev rm_J_numberOfLeadingZeros_0f7a4 : Room := { frames := 0, cells := 0, slots := 0, locals := 0 }
set_option maxRecDepth 100000 in
set_option maxHeartbeats 4000000 in
theorem m_J_numberOfLeadingZeros_0f7a4 (l : Launch) (D : va_G) (K : Nat → ClassId) (a0 : Int32) {r_ : Int32} (hf : f_J_numberOfLeadingZeros_0f7a4 a0 = some r_) : MI l yJ6_numberOfLeadingZeros_0f7a4 cJ6_numberOfLeadingZeros_0f7a4 2 (some .int) rm_J_numberOfLeadingZeros_0f7a4 D K [.int a0] ([]) r_ ([]) := by
  refine MI_of (loc0 := [(0, .int a0)]) (by decide +kernel) rfl (Nat.le_of_ble_eq_true rfl) ?_
  intro p e s m args below meth c A cx
  unfold f_J_numberOfLeadingZeros_0f7a4 at hf
  refine r_ws (ws' := []) rfl ?_
  refine r_iload_n (pc := 0) cx dJ6_numberOfLeadingZeros_0f7a4_0 0 rfl ?_
  refine r_if_gt (pc := 1) (tgt := 15) cx dJ6_numberOfLeadingZeros_0f7a4_1 (by decide) (fun h1 => ?_) (fun h1 => ?_)
  · replace hf := ifp h1 hf
    refine r_bipush (pc := 15) cx dJ6_numberOfLeadingZeros_0f7a4_15 bp_31 ?_
    refine r_istore_n (pc := 17) (loc' := [(1, .int (31 : Int32)), (0, .int a0)]) cx dJ6_numberOfLeadingZeros_0f7a4_17 rfl (by decide) rfl ?_
    refine r_iload_n (pc := 18) cx dJ6_numberOfLeadingZeros_0f7a4_18 1 rfl ?_
    refine r_ldcw (pc := 19) cx dJ6_numberOfLeadingZeros_0f7a4_19 wd_838 ?_
    replace hf := nm_of hf
    obtain ⟨J4, eJ4, hf⟩ := hf
    have hJ4 : ∀ (x2 : Int32) (x3 : Int32), J4 x2 x3 = some r_ → WW p l e rm_J_numberOfLeadingZeros_0f7a4 s m args below meth c D A 2 0 0 (MQ below (QI D K A r_ ([])) args s 0 0 A) ([]) ([(0, .int x2), (1, .int x3)]) ([]) 33 := by
      clear hf
      intro x2 x3 hf
      rw [eJ4] at hf
      refine r_iload_n (pc := 33) cx dJ6_numberOfLeadingZeros_0f7a4_33 0 rfl ?_
      refine r_sipush (pc := 34) cx dJ6_numberOfLeadingZeros_0f7a4_34 sp_256 ?_
      replace hf := nm_of hf
      obtain ⟨J7, eJ7, hf⟩ := hf
      have hJ7 : ∀ (x5 : Int32) (x6 : Int32), J7 x5 x6 = some r_ → WW p l e rm_J_numberOfLeadingZeros_0f7a4 s m args below meth c D A 2 0 0 (MQ below (QI D K A r_ ([])) args s 0 0 A) ([]) ([(0, .int x5), (1, .int x6)]) ([]) 48 := by
        clear hf
        intro x5 x6 hf
        rw [eJ7] at hf
        refine r_iload_n (pc := 48) cx dJ6_numberOfLeadingZeros_0f7a4_48 0 rfl ?_
        refine r_bipush (pc := 49) cx dJ6_numberOfLeadingZeros_0f7a4_49 bp_16 ?_
        replace hf := nm_of hf
        obtain ⟨J10, eJ10, hf⟩ := hf
        have hJ10 : ∀ (x8 : Int32) (x9 : Int32), J10 x8 x9 = some r_ → WW p l e rm_J_numberOfLeadingZeros_0f7a4 s m args below meth c D A 2 0 0 (MQ below (QI D K A r_ ([])) args s 0 0 A) ([]) ([(0, .int x8), (1, .int x9)]) ([]) 61 := by
          clear hf
          intro x8 x9 hf
          rw [eJ10] at hf
          refine r_iload_n (pc := 61) cx dJ6_numberOfLeadingZeros_0f7a4_61 0 rfl ?_
          refine r_iconst (pc := 62) cx dJ6_numberOfLeadingZeros_0f7a4_62 ic_4 ?_
          refine r_icmp_lt (pc := 63) (tgt := 73) cx dJ6_numberOfLeadingZeros_0f7a4_63 (by decide) (fun h11 => ?_) (fun h11 => ?_)
          · replace hf := ifp h11 hf
            refine r_iload_n (pc := 73) cx dJ6_numberOfLeadingZeros_0f7a4_73 1 rfl ?_
            refine r_iload_n (pc := 74) cx dJ6_numberOfLeadingZeros_0f7a4_74 0 rfl ?_
            refine r_iconst (pc := 75) cx dJ6_numberOfLeadingZeros_0f7a4_75 ic_1 ?_
            refine r_iushr (pc := 76) cx dJ6_numberOfLeadingZeros_0f7a4_76 ?_
            refine r_isub (pc := 77) cx dJ6_numberOfLeadingZeros_0f7a4_77 ?_
            have hi := inj1 hf
            exact r_iret (pc := 78) cx hi rfl dJ6_numberOfLeadingZeros_0f7a4_78
          · replace hf := ifn h11 hf
            replace hf := nm_of hf
            obtain ⟨x12, ex12, hf⟩ := hf
            refine r_iinc (pc := 66) (loc' := [(1, .int x12), (0, .int x8)]) (v := x12) cx dJ6_numberOfLeadingZeros_0f7a4_66 1 rfl ((congrArg (fun z => x9 + z) ic_m2).trans ex12.symm) (by decide) rfl ?_
            refine r_iload_n (pc := 69) cx dJ6_numberOfLeadingZeros_0f7a4_69 1 rfl ?_
            refine r_iconst (pc := 70) cx dJ6_numberOfLeadingZeros_0f7a4_70 ic_2 ?_
            refine r_iushr (pc := 71) cx dJ6_numberOfLeadingZeros_0f7a4_71 ?_
            replace hf := nm_of hf
            obtain ⟨x13, ex13, hf⟩ := hf
            refine r_nm ex13 ?_
            refine r_istore_n (pc := 72) (loc' := [(0, .int x13), (1, .int x12)]) cx dJ6_numberOfLeadingZeros_0f7a4_72 rfl (by decide) rfl ?_
            refine r_iload_n (pc := 73) cx dJ6_numberOfLeadingZeros_0f7a4_73 1 rfl ?_
            refine r_iload_n (pc := 74) cx dJ6_numberOfLeadingZeros_0f7a4_74 0 rfl ?_
            refine r_iconst (pc := 75) cx dJ6_numberOfLeadingZeros_0f7a4_75 ic_1 ?_
            refine r_iushr (pc := 76) cx dJ6_numberOfLeadingZeros_0f7a4_76 ?_
            refine r_isub (pc := 77) cx dJ6_numberOfLeadingZeros_0f7a4_77 ?_
            have hi := inj1 hf
            exact r_iret (pc := 78) cx hi rfl dJ6_numberOfLeadingZeros_0f7a4_78
        refine r_icmp_lt (pc := 51) (tgt := 61) cx dJ6_numberOfLeadingZeros_0f7a4_51 (by decide) (fun h14 => ?_) (fun h14 => ?_)
        · replace hf := ifp h14 hf
          exact hJ10 _ _ hf
        · replace hf := ifn h14 hf
          replace hf := nm_of hf
          obtain ⟨x15, ex15, hf⟩ := hf
          refine r_iinc (pc := 54) (loc' := [(1, .int x15), (0, .int x5)]) (v := x15) cx dJ6_numberOfLeadingZeros_0f7a4_54 1 rfl ((congrArg (fun z => x6 + z) ic_m4).trans ex15.symm) (by decide) rfl ?_
          refine r_iload_n (pc := 57) cx dJ6_numberOfLeadingZeros_0f7a4_57 1 rfl ?_
          refine r_iconst (pc := 58) cx dJ6_numberOfLeadingZeros_0f7a4_58 ic_4 ?_
          refine r_iushr (pc := 59) cx dJ6_numberOfLeadingZeros_0f7a4_59 ?_
          replace hf := nm_of hf
          obtain ⟨x16, ex16, hf⟩ := hf
          refine r_nm ex16 ?_
          refine r_istore_n (pc := 60) (loc' := [(0, .int x16), (1, .int x15)]) cx dJ6_numberOfLeadingZeros_0f7a4_60 rfl (by decide) rfl ?_
          exact hJ10 _ _ hf
      refine r_icmp_lt (pc := 37) (tgt := 48) cx dJ6_numberOfLeadingZeros_0f7a4_37 (by decide) (fun h17 => ?_) (fun h17 => ?_)
      · replace hf := ifp h17 hf
        exact hJ7 _ _ hf
      · replace hf := ifn h17 hf
        replace hf := nm_of hf
        obtain ⟨x18, ex18, hf⟩ := hf
        refine r_iinc (pc := 40) (loc' := [(1, .int x18), (0, .int x2)]) (v := x18) cx dJ6_numberOfLeadingZeros_0f7a4_40 1 rfl ((congrArg (fun z => x3 + z) ic_m8).trans ex18.symm) (by decide) rfl ?_
        refine r_iload_n (pc := 43) cx dJ6_numberOfLeadingZeros_0f7a4_43 1 rfl ?_
        refine r_bipush (pc := 44) cx dJ6_numberOfLeadingZeros_0f7a4_44 bp_8 ?_
        refine r_iushr (pc := 46) cx dJ6_numberOfLeadingZeros_0f7a4_46 ?_
        replace hf := nm_of hf
        obtain ⟨x19, ex19, hf⟩ := hf
        refine r_nm ex19 ?_
        refine r_istore_n (pc := 47) (loc' := [(0, .int x19), (1, .int x18)]) cx dJ6_numberOfLeadingZeros_0f7a4_47 rfl (by decide) rfl ?_
        exact hJ7 _ _ hf
    refine r_icmp_lt (pc := 22) (tgt := 33) cx dJ6_numberOfLeadingZeros_0f7a4_22 (by decide) (fun h20 => ?_) (fun h20 => ?_)
    · replace hf := ifp h20 hf
      refine r_loc (loc' := [(0, .int a0), (1, .int (31 : Int32))]) [1, 0] rfl ?_
      exact hJ4 _ _ hf
    · replace hf := ifn h20 hf
      replace hf := nm_of hf
      obtain ⟨x21, ex21, hf⟩ := hf
      refine r_iinc (pc := 25) (loc' := [(1, .int x21), (0, .int a0)]) (v := x21) cx dJ6_numberOfLeadingZeros_0f7a4_25 0 rfl ((congrArg (fun z => (31 : Int32) + z) ic_m16).trans ex21.symm) (by decide) rfl ?_
      refine r_iload_n (pc := 28) cx dJ6_numberOfLeadingZeros_0f7a4_28 1 rfl ?_
      refine r_bipush (pc := 29) cx dJ6_numberOfLeadingZeros_0f7a4_29 bp_16 ?_
      refine r_iushr (pc := 31) cx dJ6_numberOfLeadingZeros_0f7a4_31 ?_
      replace hf := nm_of hf
      obtain ⟨x22, ex22, hf⟩ := hf
      refine r_nm ex22 ?_
      refine r_istore_n (pc := 32) (loc' := [(0, .int x22), (1, .int x21)]) cx dJ6_numberOfLeadingZeros_0f7a4_32 rfl (by decide) rfl ?_
      exact hJ4 _ _ hf
  · replace hf := ifn h1 hf
    refine r_iload_n (pc := 4) cx dJ6_numberOfLeadingZeros_0f7a4_4 0 rfl ?_
    refine r_if_ne (pc := 5) (tgt := 13) cx dJ6_numberOfLeadingZeros_0f7a4_5 (by decide) (fun h23 => ?_) (fun h23 => ?_)
    · replace hf := ifn h23 hf
      refine r_iconst (pc := 13) cx dJ6_numberOfLeadingZeros_0f7a4_13 ic_0 ?_
      have hi := inj1 hf
      exact r_iret (pc := 14) cx hi rfl dJ6_numberOfLeadingZeros_0f7a4_14
    · replace hf := ifp h23 hf
      refine r_bipush (pc := 8) cx dJ6_numberOfLeadingZeros_0f7a4_8 bp_32 ?_
      refine r_goto (pc := 10) (tgt := 14) cx dJ6_numberOfLeadingZeros_0f7a4_10 (by decide) ?_
      have hi := inj1 hf
      exact r_iret (pc := 14) cx hi rfl dJ6_numberOfLeadingZeros_0f7a4_14
theorem ys_J6_numberOfLeadingZeros_0f7a4 : YS yJ6_numberOfLeadingZeros_0f7a4 cJ6_numberOfLeadingZeros_0f7a4 2 (some .int) 1 := ⟨⟨by decide +kernel, by decide +kernel, by decide +kernel⟩, wd_837, wd_107, wd_836⟩
abbrev rm_J_numberOfLeadingZeros_95d88 : Room := { frames := 1, cells := 0, slots := 0, locals := 21 }
set_option maxRecDepth 100000 in
set_option maxHeartbeats 4000000 in
theorem m_J_numberOfLeadingZeros_95d88 (l : Launch) (D : va_G) (K : Nat → ClassId) (a0 : Int64) {r_ : Int32} (hf : f_J_numberOfLeadingZeros_95d88 a0 = some r_) : MI l yJ13_numberOfLeadingZeros_95d88 cJ13_numberOfLeadingZeros_95d88 3 (some .int) rm_J_numberOfLeadingZeros_95d88 D K [.long a0] ([]) r_ ([]) := by
  refine MI_of (loc0 := [(0, .long a0)]) (by decide +kernel) rfl (Nat.le_of_ble_eq_true rfl) ?_
  intro p e s m args below meth c A cx
  unfold f_J_numberOfLeadingZeros_95d88 at hf
  refine r_ws (ws' := []) rfl ?_
  refine r_lload_n (pc := 0) cx dJ13_numberOfLeadingZeros_95d88_0 0 rfl ?_
  refine r_bipush (pc := 1) cx dJ13_numberOfLeadingZeros_95d88_1 bp_32 ?_
  refine r_lushr (pc := 3) cx dJ13_numberOfLeadingZeros_95d88_3 ?_
  refine r_l2i (pc := 4) cx dJ13_numberOfLeadingZeros_95d88_4 ?_
  replace hf := nm_of hf
  obtain ⟨x1, ex1, hf⟩ := hf
  refine r_nm ex1 ?_
  refine r_istore_n (pc := 5) (loc' := [(2, .int x1), (0, .long a0)]) cx dJ13_numberOfLeadingZeros_95d88_5 rfl (by decide) rfl ?_
  refine r_iload_n (pc := 6) cx dJ13_numberOfLeadingZeros_95d88_6 0 rfl ?_
  refine r_if_ne (pc := 7) (tgt := 21) cx dJ13_numberOfLeadingZeros_95d88_7 (by decide) (fun h2 => ?_) (fun h2 => ?_)
  · replace hf := ifn h2 hf
    refine r_iload_n (pc := 21) cx dJ13_numberOfLeadingZeros_95d88_21 0 rfl ?_
    replace hf := bd_of hf
    obtain ⟨r3, hc4, hf⟩ := hf
    refine r_Si (pc := 22) (ws' := []) (wc := []) (nn := 0) cx [.int x1] [] (m_J_numberOfLeadingZeros_0f7a4 l D K x1 hc4) rfl ys_J6_numberOfLeadingZeros_0f7a4 wd_835 ⟨rfl, rfl⟩ (by decide) (fr_n) rfl (by decide) rfl (Nat.le_of_ble_eq_true rfl) dJ13_numberOfLeadingZeros_95d88_22 ?_
    have hi := inj1 hf
    exact r_iret (pc := 25) cx hi rfl dJ13_numberOfLeadingZeros_95d88_25
  · replace hf := ifp h2 hf
    refine r_bipush (pc := 10) cx dJ13_numberOfLeadingZeros_95d88_10 bp_32 ?_
    refine r_lload_n (pc := 12) cx dJ13_numberOfLeadingZeros_95d88_12 1 rfl ?_
    refine r_l2i (pc := 13) cx dJ13_numberOfLeadingZeros_95d88_13 ?_
    replace hf := bd_of hf
    obtain ⟨r5, hc6, hf⟩ := hf
    refine r_Si (pc := 14) (ws' := []) (wc := []) (nn := 0) cx [.int ((a0).toInt32)] [.int (32 : Int32)] (m_J_numberOfLeadingZeros_0f7a4 l D K ((a0).toInt32) hc6) rfl ys_J6_numberOfLeadingZeros_0f7a4 wd_835 ⟨rfl, rfl⟩ (by decide) (fr_n) rfl (by decide) rfl (Nat.le_of_ble_eq_true rfl) dJ13_numberOfLeadingZeros_95d88_14 ?_
    refine r_iadd (pc := 17) cx dJ13_numberOfLeadingZeros_95d88_17 ?_
    refine r_goto (pc := 18) (tgt := 25) cx dJ13_numberOfLeadingZeros_95d88_18 (by decide) ?_
    have hi := inj1 hf
    exact r_iret (pc := 25) cx hi rfl dJ13_numberOfLeadingZeros_95d88_25
theorem ys_J13_numberOfLeadingZeros_95d88 : YS yJ13_numberOfLeadingZeros_95d88 cJ13_numberOfLeadingZeros_95d88 3 (some .int) 1 := ⟨⟨by decide +kernel, by decide +kernel, by decide +kernel⟩, wd_834, wd_106, wd_833⟩
