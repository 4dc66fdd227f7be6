abbrev rm_Fl_isLost : Room := { frames := 0, cells := 0, slots := 0, locals := 0 }
set_option maxRecDepth 100000 in
set_option maxHeartbeats 4000000 in
theorem m_Fl_isLost (l : Launch) (D : va_G) (K : Nat → ClassId) (a0 : Int32) {r_ : Int32} (hf : f_Fl_isLost a0 = some r_) : MI l yX1_isLost cX1_isLost 1 (some .boolean) rm_Fl_isLost D K [.int a0] ([]) r_ ([]) := by
  refine MI_of (loc0 := [(0, .int a0)]) (by decide +kernel) rfl (Nat.le_of_ble_eq_true rfl) ?_
  intro p e s m args below meth c A cx
  unfold f_Fl_isLost at hf
  refine r_ws (ws' := []) rfl ?_
  refine r_iload_n (pc := 0) cx dX1_isLost_0 0 rfl ?_
  refine r_ldc (pc := 1) cx dX1_isLost_1 wd_756 ?_
  refine r_iand (pc := 3) cx dX1_isLost_3 ?_
  refine r_ldc (pc := 4) cx dX1_isLost_4 wd_756 ?_
  refine r_icmp_ne (pc := 6) (tgt := 13) cx dX1_isLost_6 (by decide) (fun h1 => ?_) (fun h1 => ?_)
  · replace hf := ifn h1 hf
    refine r_iconst (pc := 13) cx dX1_isLost_13 ic_0 ?_
    have hi := inj1 hf
    exact r_zret (pc := 14) cx (Or.inl rfl) hi rfl dX1_isLost_14
  · replace hf := ifp h1 hf
    refine r_iconst (pc := 9) cx dX1_isLost_9 ic_1 ?_
    refine r_goto (pc := 10) (tgt := 14) cx dX1_isLost_10 (by decide) ?_
    have hi := inj1 hf
    exact r_zret (pc := 14) cx (Or.inr rfl) hi rfl dX1_isLost_14
theorem ys_X1_isLost : YS yX1_isLost cX1_isLost 1 (some .boolean) 1 := ⟨⟨by decide +kernel, by decide +kernel, by decide +kernel⟩, wd_755, wd_104, wd_754⟩
abbrev rm_Fl_rank : Room := { frames := 0, cells := 0, slots := 0, locals := 0 }
set_option maxRecDepth 100000 in
set_option maxHeartbeats 4000000 in
theorem m_Fl_rank (l : Launch) (D : va_G) (K : Nat → ClassId) (a0 : Int32) {r_ : Int32} (hf : f_Fl_rank a0 = some r_) : MI l yX1_rank cX1_rank 1 (some .int) rm_Fl_rank D K [.int a0] ([]) r_ ([]) := by
  refine MI_of (loc0 := [(0, .int a0)]) (by decide +kernel) rfl (Nat.le_of_ble_eq_true rfl) ?_
  intro p e s m args below meth c A cx
  unfold f_Fl_rank at hf
  refine r_ws (ws' := []) rfl ?_
  refine r_iload_n (pc := 0) cx dX1_rank_0 0 rfl ?_
  refine r_if_ge (pc := 1) (tgt := 12) cx dX1_rank_1 (by decide) (fun h1 => ?_) (fun h1 => ?_)
  · replace hf := ifp h1 hf
    refine r_iload_n (pc := 12) cx dX1_rank_12 0 rfl ?_
    have hi := inj1 hf
    exact r_iret (pc := 13) cx hi rfl dX1_rank_13
  · replace hf := ifn h1 hf
    refine r_iload_n (pc := 4) cx dX1_rank_4 0 rfl ?_
    refine r_ldc (pc := 5) cx dX1_rank_5 wd_760 ?_
    refine r_iand (pc := 7) cx dX1_rank_7 ?_
    refine r_ineg (pc := 8) cx dX1_rank_8 ?_
    refine r_goto (pc := 9) (tgt := 13) cx dX1_rank_9 (by decide) ?_
    have hi := inj1 hf
    exact r_iret (pc := 13) cx hi rfl dX1_rank_13
theorem ys_X1_rank : YS yX1_rank cX1_rank 1 (some .int) 1 := ⟨⟨by decide +kernel, by decide +kernel, by decide +kernel⟩, wd_759, wd_104, wd_758⟩
abbrev rm_Fl_isUnder : Room := { frames := 1, cells := 0, slots := 0, locals := 20 }
set_option maxRecDepth 100000 in
set_option maxHeartbeats 4000000 in
theorem m_Fl_isUnder (l : Launch) (D : va_G) (K : Nat → ClassId) (a0 : Int32) (a1 : Int32) {r_ : Int32} (hf : f_Fl_isUnder a0 a1 = some r_) : MI l yX1_isUnder cX1_isUnder 2 (some .boolean) rm_Fl_isUnder D K [.int a0, .int a1] ([]) r_ ([]) := by
  refine MI_of (loc0 := [(0, .int a0), (1, .int a1)]) (by decide +kernel) rfl (Nat.le_of_ble_eq_true rfl) ?_
  intro p e s m args below meth c A cx
  unfold f_Fl_isUnder at hf
  refine r_ws (ws' := []) rfl ?_
  refine r_iload_n (pc := 0) cx dX1_isUnder_0 0 rfl ?_
  replace hf := bd_of hf
  obtain ⟨r1, hc2, hf⟩ := hf
  refine r_Si (pc := 1) (ws' := []) (wc := []) (nn := 0) cx [.int a0] [] (m_Fl_isLost l D K a0 hc2) rfl ys_X1_isLost wd_753 ⟨rfl, rfl⟩ (by decide) (fr_n) rfl (by decide) rfl (Nat.le_of_ble_eq_true rfl) dX1_isUnder_1 ?_
  refine r_if_ne (pc := 4) (tgt := 29) cx dX1_isUnder_4 (by decide) (fun h3 => ?_) (fun h3 => ?_)
  · replace hf := ifn h3 hf
    refine r_iconst (pc := 29) cx dX1_isUnder_29 ic_0 ?_
    have hi := inj1 hf
    exact r_zret (pc := 30) cx (Or.inl rfl) hi rfl dX1_isUnder_30
  · replace hf := ifp h3 hf
    refine r_iload_n (pc := 7) cx dX1_isUnder_7 1 rfl ?_
    replace hf := bd_of hf
    obtain ⟨r4, hc5, hf⟩ := hf
    refine r_Si (pc := 8) (ws' := []) (wc := []) (nn := 0) cx [.int a1] [] (m_Fl_isLost l D K a1 hc5) rfl ys_X1_isLost wd_753 ⟨rfl, rfl⟩ (by decide) (fr_n) rfl (by decide) rfl (Nat.le_of_ble_eq_true rfl) dX1_isUnder_8 ?_
    refine r_if_ne (pc := 11) (tgt := 29) cx dX1_isUnder_11 (by decide) (fun h6 => ?_) (fun h6 => ?_)
    · replace hf := ifn h6 hf
      refine r_iconst (pc := 29) cx dX1_isUnder_29 ic_0 ?_
      have hi := inj1 hf
      exact r_zret (pc := 30) cx (Or.inl rfl) hi rfl dX1_isUnder_30
    · replace hf := ifp h6 hf
      refine r_iload_n (pc := 14) cx dX1_isUnder_14 0 rfl ?_
      replace hf := bd_of hf
      obtain ⟨r7, hc8, hf⟩ := hf
      refine r_Si (pc := 15) (ws' := []) (wc := []) (nn := 0) cx [.int a0] [] (m_Fl_rank l D K a0 hc8) rfl ys_X1_rank wd_757 ⟨rfl, rfl⟩ (by decide) (fr_n) rfl (by decide) rfl (Nat.le_of_ble_eq_true rfl) dX1_isUnder_15 ?_
      refine r_iload_n (pc := 18) cx dX1_isUnder_18 1 rfl ?_
      replace hf := bd_of hf
      obtain ⟨r9, hc10, hf⟩ := hf
      refine r_Si (pc := 19) (ws' := []) (wc := []) (nn := 0) cx [.int a1] [.int r7] (m_Fl_rank l D K a1 hc10) rfl ys_X1_rank wd_757 ⟨rfl, rfl⟩ (by decide) (fr_n) rfl (by decide) rfl (Nat.le_of_ble_eq_true rfl) dX1_isUnder_19 ?_
      refine r_icmp_ge (pc := 22) (tgt := 29) cx dX1_isUnder_22 (by decide) (fun h11 => ?_) (fun h11 => ?_)
      · replace hf := ifp h11 hf
        refine r_iconst (pc := 29) cx dX1_isUnder_29 ic_0 ?_
        have hi := inj1 hf
        exact r_zret (pc := 30) cx (Or.inl rfl) hi rfl dX1_isUnder_30
      · replace hf := ifn h11 hf
        refine r_iconst (pc := 25) cx dX1_isUnder_25 ic_1 ?_
        refine r_goto (pc := 26) (tgt := 30) cx dX1_isUnder_26 (by decide) ?_
        have hi := inj1 hf
        exact r_zret (pc := 30) cx (Or.inr rfl) hi rfl dX1_isUnder_30
theorem ys_X1_isUnder : YS yX1_isUnder cX1_isUnder 2 (some .boolean) 2 := ⟨⟨by decide +kernel, by decide +kernel, by decide +kernel⟩, wd_752, wd_104, wd_751⟩
abbrev rm_Fl_nearest : Room := { frames := 2, cells := 0, slots := 0, locals := 43 }
set_option maxRecDepth 100000 in
set_option maxHeartbeats 4000000 in
theorem m_Fl_nearest (l : Launch) (D : va_G) (K : Nat → ClassId) (a0 : Int32) (a1 : Int64) (a3 : Int32) {r_ : Int32} (hf : f_Fl_nearest a0 a1 a3 = some r_) : MI l yX1_nearest cX1_nearest 13 (some .int) rm_Fl_nearest D K [.int a0, .long a1, .int a3] ([]) r_ ([]) := by
  refine MI_of (loc0 := [(0, .int a0), (1, .long a1), (3, .int a3)]) (by decide +kernel) rfl (Nat.le_of_ble_eq_true rfl) ?_
  intro p e s m args below meth c A cx
  unfold f_Fl_nearest at hf
  refine r_ws (ws' := []) rfl ?_
  refine r_lload_n (pc := 0) cx dX1_nearest_0 1 rfl ?_
  refine r_lconst (pc := 1) cx dX1_nearest_1 rfl ?_
  refine r_lcmp (pc := 2) cx dX1_nearest_2 ?_
  refine r_if_gt (pc := 3) (tgt := 8) cx dX1_nearest_3 (by decide) (fun h1 => ?_) (fun h1 => ?_)
  · replace hf := ifp h1 hf
    refine r_bipush (pc := 8) cx dX1_nearest_8 bp_64 ?_
    refine r_lload_n (pc := 10) cx dX1_nearest_10 1 rfl ?_
    replace hf := bd_of hf
    obtain ⟨r2, hc3, hf⟩ := hf
    refine r_Si (pc := 11) (ws' := []) (wc := []) (nn := 0) cx [.long a1] [.int (64 : Int32)] (m_J_numberOfLeadingZeros_95d88 l D K a1 hc3) rfl ys_J13_numberOfLeadingZeros_95d88 wd_832 ⟨rfl, rfl⟩ (by decide) (fr_n) rfl (by decide) rfl (Nat.le_of_ble_eq_true rfl) dX1_nearest_11 ?_
    refine r_isub (pc := 14) cx dX1_nearest_14 ?_
    replace hf := nm_of hf
    obtain ⟨x4, ex4, hf⟩ := hf
    refine r_nm ex4 ?_
    refine r_istore (pc := 15) (loc' := [(4, .int x4), (0, .int a0), (1, .long a1), (3, .int a3)]) cx dX1_nearest_15 (by decide) rfl ?_
    refine r_iload_n (pc := 17) cx dX1_nearest_17 3 rfl ?_
    refine r_iload (pc := 18) cx dX1_nearest_18 0 rfl ?_
    refine r_iadd (pc := 20) cx dX1_nearest_20 ?_
    refine r_bipush (pc := 21) cx dX1_nearest_21 bp_24 ?_
    refine r_isub (pc := 23) cx dX1_nearest_23 ?_
    refine r_sipush (pc := 24) cx dX1_nearest_24 sp_m149 ?_
    refine r_mmax (pc := 27) cx wd_839 ys_J9_max_7cf53 (by decide) (Nat.le_of_ble_eq_true rfl) dX1_nearest_27 ?_
    replace hf := nm_of hf
    obtain ⟨x5, ex5, hf⟩ := hf
    refine r_nm ex5 ?_
    refine r_istore (pc := 30) (loc' := [(5, .int x5), (4, .int x4), (0, .int a0), (1, .long a1), (3, .int a3)]) cx dX1_nearest_30 (by decide) rfl ?_
    refine r_iload (pc := 32) cx dX1_nearest_32 0 rfl ?_
    refine r_iload_n (pc := 34) cx dX1_nearest_34 4 rfl ?_
    refine r_isub (pc := 35) cx dX1_nearest_35 ?_
    replace hf := nm_of hf
    obtain ⟨x6, ex6, hf⟩ := hf
    refine r_nm ex6 ?_
    refine r_istore (pc := 36) (loc' := [(6, .int x6), (5, .int x5), (4, .int x4), (0, .int a0), (1, .long a1), (3, .int a3)]) cx dX1_nearest_36 (by decide) rfl ?_
    refine r_iload (pc := 38) cx dX1_nearest_38 0 rfl ?_
    replace hf := nm_of hf
    obtain ⟨J8, eJ8, hf⟩ := hf
    have hJ8 : ∀ (x7 : Int64), J8 x7 = some r_ → WW p l e rm_Fl_nearest s m args below meth c D A 13 0 0 (MQ below (QI D K A r_ ([])) args s 0 0 A) ([]) ([(0, .int a0), (5, .int x5), (7, .long x7)]) ([]) 124 := by
      clear hf
      intro x7 hf
      rw [eJ8] at hf
      refine r_iload (pc := 124) cx dX1_nearest_124 1 rfl ?_
      refine r_sipush (pc := 126) cx dX1_nearest_126 sp_149 ?_
      refine r_iadd (pc := 129) cx dX1_nearest_129 ?_
      refine r_i2l (pc := 130) cx dX1_nearest_130 ?_
      refine r_bipush (pc := 131) cx dX1_nearest_131 bp_23 ?_
      refine r_lshl (pc := 133) cx dX1_nearest_133 ?_
      refine r_lload (pc := 134) cx dX1_nearest_134 2 rfl ?_
      refine r_ladd (pc := 136) cx dX1_nearest_136 ?_
      replace hf := nm_of hf
      obtain ⟨x9, ex9, hf⟩ := hf
      refine r_nmL ex9 ?_
      refine r_lstore (pc := 137) (loc' := [(9, .long x9), (0, .int a0), (5, .int x5), (7, .long x7)]) cx dX1_nearest_137 (by decide) rfl ?_
      refine r_iload_n (pc := 139) cx dX1_nearest_139 1 rfl ?_
      refine r_lload (pc := 140) cx dX1_nearest_140 0 rfl ?_
      refine r_ldc2 (pc := 142) cx dX1_nearest_142 wd_842 ?_
      refine r_mminL (pc := 145) cx wd_843 ys_J9_min_f86c9 (by decide) (Nat.le_of_ble_eq_true rfl) dX1_nearest_145 ?_
      replace hf := nm_of hf
      obtain ⟨x10, ex10, hf⟩ := hf
      refine r_nmL ex10 ?_
      refine r_l2i (pc := 148) cx dX1_nearest_148 ?_
      refine r_ior (pc := 149) cx dX1_nearest_149 ?_
      have hi := inj1 hf
      exact r_iret (pc := 150) cx hi rfl dX1_nearest_150
    refine r_if_gt (pc := 40) (tgt := 53) cx dX1_nearest_40 (by decide) (fun h11 => ?_) (fun h11 => ?_)
    · replace hf := ifp h11 hf
      refine r_iload (pc := 53) cx dX1_nearest_53 0 rfl ?_
      refine r_bipush (pc := 55) cx dX1_nearest_55 bp_62 ?_
      refine r_icmp_le (pc := 57) (tgt := 66) cx dX1_nearest_57 (by decide) (fun h12 => ?_) (fun h12 => ?_)
      · replace hf := ifp h12 hf
        refine r_lload_n (pc := 66) cx dX1_nearest_66 4 rfl ?_
        refine r_iload (pc := 67) cx dX1_nearest_67 0 rfl ?_
        refine r_lshr (pc := 69) cx dX1_nearest_69 ?_
        replace hf := nm_of hf
        obtain ⟨x13, ex13, hf⟩ := hf
        refine r_nmL ex13 ?_
        refine r_lstore (pc := 70) (loc' := [(7, .long x13), (6, .int x6), (5, .int x5), (4, .int x4), (0, .int a0), (1, .long a1), (3, .int a3)]) cx dX1_nearest_70 (by decide) rfl ?_
        refine r_lload_n (pc := 72) cx dX1_nearest_72 5 rfl ?_
        refine r_lload (pc := 73) cx dX1_nearest_73 0 rfl ?_
        refine r_iload (pc := 75) cx dX1_nearest_75 1 rfl ?_
        refine r_lshl (pc := 77) cx dX1_nearest_77 ?_
        refine r_lsub (pc := 78) cx dX1_nearest_78 ?_
        replace hf := nm_of hf
        obtain ⟨x14, ex14, hf⟩ := hf
        refine r_nmL ex14 ?_
        refine r_lstore (pc := 79) (loc' := [(9, .long x14), (7, .long x13), (6, .int x6), (5, .int x5), (4, .int x4), (0, .int a0), (1, .long a1), (3, .int a3)]) cx dX1_nearest_79 (by decide) rfl ?_
        refine r_lconst (pc := 81) cx dX1_nearest_81 rfl ?_
        refine r_iload (pc := 82) cx dX1_nearest_82 2 rfl ?_
        refine r_iconst (pc := 84) cx dX1_nearest_84 ic_1 ?_
        refine r_isub (pc := 85) cx dX1_nearest_85 ?_
        refine r_lshl (pc := 86) cx dX1_nearest_86 ?_
        replace hf := nm_of hf
        obtain ⟨x15, ex15, hf⟩ := hf
        refine r_nmL ex15 ?_
        refine r_lstore (pc := 87) (loc' := [(11, .long x15), (9, .long x14), (7, .long x13), (6, .int x6), (5, .int x5), (4, .int x4), (0, .int a0), (1, .long a1), (3, .int a3)]) cx dX1_nearest_87 (by decide) rfl ?_
        refine r_lload (pc := 89) cx dX1_nearest_89 2 rfl ?_
        refine r_lload (pc := 91) cx dX1_nearest_91 1 rfl ?_
        refine r_lload (pc := 93) cx dX1_nearest_93 0 rfl ?_
        refine r_lcmp (pc := 95) cx dX1_nearest_95 ?_
        refine r_if_gt (pc := 96) (tgt := 116) cx dX1_nearest_96 (by decide) (fun h16 => ?_) (fun h16 => ?_)
        · replace hf := ifp h16 hf
          refine r_lconst (pc := 116) cx dX1_nearest_116 rfl ?_
          refine r_goto (pc := 117) (tgt := 121) cx dX1_nearest_117 (by decide) ?_
          refine r_ladd (pc := 121) cx dX1_nearest_121 ?_
          replace hf := nm_of hf
          obtain ⟨x17, ex17, hf⟩ := hf
          refine r_nmL ex17 ?_
          refine r_lstore (pc := 122) (loc' := [(7, .long x17), (11, .long x15), (9, .long x14), (6, .int x6), (5, .int x5), (4, .int x4), (0, .int a0), (1, .long a1), (3, .int a3)]) cx dX1_nearest_122 (by decide) rfl ?_
          refine r_loc (loc' := [(0, .int a0), (5, .int x5), (7, .long x17)]) [6, 4, 0] rfl ?_
          exact hJ8 _ hf
        · replace hf := ifn h16 hf
          refine r_lload (pc := 99) cx dX1_nearest_99 1 rfl ?_
          refine r_lload (pc := 101) cx dX1_nearest_101 0 rfl ?_
          refine r_lcmp (pc := 103) cx dX1_nearest_103 ?_
          refine r_if_ne (pc := 104) (tgt := 120) cx dX1_nearest_104 (by decide) (fun h18 => ?_) (fun h18 => ?_)
          · replace hf := ifn h18 hf
            refine r_lconst (pc := 120) cx dX1_nearest_120 rfl ?_
            refine r_ladd (pc := 121) cx dX1_nearest_121 ?_
            replace hf := nm_of hf
            obtain ⟨x19, ex19, hf⟩ := hf
            refine r_nmL ex19 ?_
            refine r_lstore (pc := 122) (loc' := [(7, .long x19), (11, .long x15), (9, .long x14), (6, .int x6), (5, .int x5), (4, .int x4), (0, .int a0), (1, .long a1), (3, .int a3)]) cx dX1_nearest_122 (by decide) rfl ?_
            refine r_loc (loc' := [(0, .int a0), (5, .int x5), (7, .long x19)]) [6, 4, 0] rfl ?_
            exact hJ8 _ hf
          · replace hf := ifp h18 hf
            refine r_lload (pc := 107) cx dX1_nearest_107 2 rfl ?_
            refine r_lconst (pc := 109) cx dX1_nearest_109 rfl ?_
            refine r_land (pc := 110) cx dX1_nearest_110 ?_
            refine r_lconst (pc := 111) cx dX1_nearest_111 rfl ?_
            refine r_lcmp (pc := 112) cx dX1_nearest_112 ?_
            refine r_if_ne (pc := 113) (tgt := 120) cx dX1_nearest_113 (by decide) (fun h20 => ?_) (fun h20 => ?_)
            · replace hf := ifn h20 hf
              refine r_lconst (pc := 120) cx dX1_nearest_120 rfl ?_
              refine r_ladd (pc := 121) cx dX1_nearest_121 ?_
              replace hf := nm_of hf
              obtain ⟨x21, ex21, hf⟩ := hf
              refine r_nmL ex21 ?_
              refine r_lstore (pc := 122) (loc' := [(7, .long x21), (11, .long x15), (9, .long x14), (6, .int x6), (5, .int x5), (4, .int x4), (0, .int a0), (1, .long a1), (3, .int a3)]) cx dX1_nearest_122 (by decide) rfl ?_
              refine r_loc (loc' := [(0, .int a0), (5, .int x5), (7, .long x21)]) [6, 4, 0] rfl ?_
              exact hJ8 _ hf
            · replace hf := ifp h20 hf
              refine r_lconst (pc := 116) cx dX1_nearest_116 rfl ?_
              refine r_goto (pc := 117) (tgt := 121) cx dX1_nearest_117 (by decide) ?_
              refine r_ladd (pc := 121) cx dX1_nearest_121 ?_
              replace hf := nm_of hf
              obtain ⟨x22, ex22, hf⟩ := hf
              refine r_nmL ex22 ?_
              refine r_lstore (pc := 122) (loc' := [(7, .long x22), (11, .long x15), (9, .long x14), (6, .int x6), (5, .int x5), (4, .int x4), (0, .int a0), (1, .long a1), (3, .int a3)]) cx dX1_nearest_122 (by decide) rfl ?_
              refine r_loc (loc' := [(0, .int a0), (5, .int x5), (7, .long x22)]) [6, 4, 0] rfl ?_
              exact hJ8 _ hf
      · replace hf := ifn h12 hf
        refine r_lconst (pc := 60) cx dX1_nearest_60 rfl ?_
        refine r_lstore (pc := 61) (loc' := [(7, .long (0 : Int64)), (6, .int x6), (5, .int x5), (4, .int x4), (0, .int a0), (1, .long a1), (3, .int a3)]) cx dX1_nearest_61 (by decide) rfl ?_
        refine r_goto (pc := 63) (tgt := 124) cx dX1_nearest_63 (by decide) ?_
        refine r_loc (loc' := [(0, .int a0), (5, .int x5), (7, .long (0 : Int64))]) [4, 2, 0] rfl ?_
        exact hJ8 _ hf
    · replace hf := ifn h11 hf
      refine r_lload_n (pc := 43) cx dX1_nearest_43 4 rfl ?_
      refine r_iload (pc := 44) cx dX1_nearest_44 0 rfl ?_
      refine r_ineg (pc := 46) cx dX1_nearest_46 ?_
      refine r_lshl (pc := 47) cx dX1_nearest_47 ?_
      replace hf := nm_of hf
      obtain ⟨x23, ex23, hf⟩ := hf
      refine r_nmL ex23 ?_
      refine r_lstore (pc := 48) (loc' := [(7, .long x23), (6, .int x6), (5, .int x5), (4, .int x4), (0, .int a0), (1, .long a1), (3, .int a3)]) cx dX1_nearest_48 (by decide) rfl ?_
      refine r_goto (pc := 50) (tgt := 124) cx dX1_nearest_50 (by decide) ?_
      refine r_loc (loc' := [(0, .int a0), (5, .int x5), (7, .long x23)]) [4, 2, 0] rfl ?_
      exact hJ8 _ hf
  · replace hf := ifn h1 hf
    refine r_iload_n (pc := 6) cx dX1_nearest_6 0 rfl ?_
    have hi := inj1 hf
    exact r_iret (pc := 7) cx hi rfl dX1_nearest_7
theorem ys_X1_nearest : YS yX1_nearest cX1_nearest 13 (some .int) 3 := ⟨⟨by decide +kernel, by decide +kernel, by decide +kernel⟩, wd_831, wd_104, wd_830⟩
abbrev rm_Fl_ofWhole : Room := { frames := 3, cells := 0, slots := 0, locals := 75 }
set_option maxRecDepth 100000 in
set_option maxHeartbeats 4000000 in
theorem m_Fl_ofWhole (l : Launch) (D : va_G) (K : Nat → ClassId) (a0 : Int32) {r_ : Int32} (hf : f_Fl_ofWhole a0 = some r_) : MI l yX1_ofWhole cX1_ofWhole 1 (some .int) rm_Fl_ofWhole D K [.int a0] ([]) r_ ([]) := by
  refine MI_of (loc0 := [(0, .int a0)]) (by decide +kernel) rfl (Nat.le_of_ble_eq_true rfl) ?_
  intro p e s m args below meth c A cx
  unfold f_Fl_ofWhole at hf
  refine r_ws (ws' := []) rfl ?_
  refine r_iload_n (pc := 0) cx dX1_ofWhole_0 0 rfl ?_
  refine r_ldc (pc := 1) cx dX1_ofWhole_1 wd_825 ?_
  refine r_iand (pc := 3) cx dX1_ofWhole_3 ?_
  refine r_iload_n (pc := 4) cx dX1_ofWhole_4 0 rfl ?_
  refine r_i2l (pc := 5) cx dX1_ofWhole_5 ?_
  refine r_mabsL (pc := 6) cx wd_826 ys_J9_abs_067f4 (by decide) (Nat.le_of_ble_eq_true rfl) dX1_ofWhole_6 ?_
  replace hf := nm_of hf
  obtain ⟨x1, ex1, hf⟩ := hf
  refine r_nmL ex1 ?_
  refine r_iconst (pc := 9) cx dX1_ofWhole_9 ic_0 ?_
  replace hf := bd_of hf
  obtain ⟨r2, hc3, hf⟩ := hf
  refine r_Si (pc := 10) (ws' := []) (wc := []) (nn := 0) cx [.int (a0 &&& (-2147483648 : Int32)), .long x1, .int (0 : Int32)] [] (m_Fl_nearest l D K (a0 &&& (-2147483648 : Int32)) x1 (0 : Int32) hc3) rfl ys_X1_nearest wd_829 ⟨rfl, rfl⟩ (by decide) (fr_n) rfl (by decide) rfl (Nat.le_of_ble_eq_true rfl) dX1_ofWhole_10 ?_
  have hi := inj1 hf
  exact r_iret (pc := 13) cx hi rfl dX1_ofWhole_13
theorem ys_X1_ofWhole : YS yX1_ofWhole cX1_ofWhole 1 (some .int) 1 := ⟨⟨by decide +kernel, by decide +kernel, by decide +kernel⟩, wd_824, wd_104, wd_823⟩
abbrev rm_Fl_exponentOf : Room := { frames := 1, cells := 0, slots := 0, locals := 23 }
set_option maxRecDepth 100000 in
set_option maxHeartbeats 4000000 in
theorem m_Fl_exponentOf (l : Launch) (D : va_G) (K : Nat → ClassId) (a0 : Int32) {r_ : Int32} (hf : f_Fl_exponentOf a0 = some r_) : MI l yX1_exponentOf cX1_exponentOf 1 (some .int) rm_Fl_exponentOf D K [.int a0] ([]) r_ ([]) := by
  refine MI_of (loc0 := [(0, .int a0)]) (by decide +kernel) rfl (Nat.le_of_ble_eq_true rfl) ?_
  intro p e s m args below meth c A cx
  unfold f_Fl_exponentOf at hf
  refine r_ws (ws' := []) rfl ?_
  refine r_iload_n (pc := 0) cx dX1_exponentOf_0 0 rfl ?_
  refine r_bipush (pc := 1) cx dX1_exponentOf_1 bp_23 ?_
  refine r_ishr (pc := 3) cx dX1_exponentOf_3 ?_
  refine r_sipush (pc := 4) cx dX1_exponentOf_4 sp_255 ?_
  refine r_iand (pc := 7) cx dX1_exponentOf_7 ?_
  refine r_iconst (pc := 8) cx dX1_exponentOf_8 ic_1 ?_
  refine r_mmax (pc := 9) cx wd_839 ys_J9_max_7cf53 (by decide) (Nat.le_of_ble_eq_true rfl) dX1_exponentOf_9 ?_
  replace hf := nm_of hf
  obtain ⟨x1, ex1, hf⟩ := hf
  refine r_nm ex1 ?_
  refine r_sipush (pc := 12) cx dX1_exponentOf_12 sp_150 ?_
  refine r_isub (pc := 15) cx dX1_exponentOf_15 ?_
  have hi := inj1 hf
  exact r_iret (pc := 16) cx hi rfl dX1_exponentOf_16
theorem ys_X1_exponentOf : YS yX1_exponentOf cX1_exponentOf 1 (some .int) 1 := ⟨⟨by decide +kernel, by decide +kernel, by decide +kernel⟩, wd_851, wd_104, wd_850⟩
abbrev rm_Fl_digitsOf : Room := { frames := 0, cells := 0, slots := 0, locals := 0 }
set_option maxRecDepth 100000 in
set_option maxHeartbeats 4000000 in
theorem m_Fl_digitsOf (l : Launch) (D : va_G) (K : Nat → ClassId) (a0 : Int32) {r_ : Int64} (hf : f_Fl_digitsOf a0 = some r_) : MJ l yX1_digitsOf cX1_digitsOf 1 (some .long) rm_Fl_digitsOf D K [.int a0] ([]) r_ ([]) := by
  refine MJ_of (loc0 := [(0, .int a0)]) (by decide +kernel) rfl (Nat.le_of_ble_eq_true rfl) ?_
  intro p e s m args below meth c A cx
  unfold f_Fl_digitsOf at hf
  refine r_ws (ws' := []) rfl ?_
  refine r_iload_n (pc := 0) cx dX1_digitsOf_0 0 rfl ?_
  refine r_ldc (pc := 1) cx dX1_digitsOf_1 wd_756 ?_
  refine r_iand (pc := 3) cx dX1_digitsOf_3 ?_
  refine r_if_ne (pc := 4) (tgt := 15) cx dX1_digitsOf_4 (by decide) (fun h1 => ?_) (fun h1 => ?_)
  · replace hf := ifn h1 hf
    refine r_iload_n (pc := 15) cx dX1_digitsOf_15 0 rfl ?_
    refine r_ldc (pc := 16) cx dX1_digitsOf_16 wd_855 ?_
    refine r_iand (pc := 18) cx dX1_digitsOf_18 ?_
    refine r_ldc (pc := 19) cx dX1_digitsOf_19 wd_856 ?_
    refine r_ior (pc := 21) cx dX1_digitsOf_21 ?_
    refine r_i2l (pc := 22) cx dX1_digitsOf_22 ?_
    have hi := inj1 hf
    exact r_lret (pc := 23) cx hi rfl dX1_digitsOf_23
  · replace hf := ifp h1 hf
    refine r_iload_n (pc := 7) cx dX1_digitsOf_7 0 rfl ?_
    refine r_ldc (pc := 8) cx dX1_digitsOf_8 wd_855 ?_
    refine r_iand (pc := 10) cx dX1_digitsOf_10 ?_
    refine r_i2l (pc := 11) cx dX1_digitsOf_11 ?_
    refine r_goto (pc := 12) (tgt := 23) cx dX1_digitsOf_12 (by decide) ?_
    have hi := inj1 hf
    exact r_lret (pc := 23) cx hi rfl dX1_digitsOf_23
theorem ys_X1_digitsOf : YS yX1_digitsOf cX1_digitsOf 1 (some .long) 1 := ⟨⟨by decide +kernel, by decide +kernel, by decide +kernel⟩, wd_854, wd_104, wd_853⟩
abbrev rm_Fl_toWhole : Room := { frames := 2, cells := 0, slots := 0, locals := 43 }
set_option maxRecDepth 100000 in
set_option maxHeartbeats 4000000 in
theorem m_Fl_toWhole (l : Launch) (D : va_G) (K : Nat → ClassId) (a0 : Int32) {r_ : Int32} (hf : f_Fl_toWhole a0 = some r_) : MI l yX1_toWhole cX1_toWhole 4 (some .int) rm_Fl_toWhole D K [.int a0] ([]) r_ ([]) := by
  refine MI_of (loc0 := [(0, .int a0)]) (by decide +kernel) rfl (Nat.le_of_ble_eq_true rfl) ?_
  intro p e s m args below meth c A cx
  unfold f_Fl_toWhole at hf
  refine r_ws (ws' := []) rfl ?_
  refine r_iload_n (pc := 0) cx dX1_toWhole_0 0 rfl ?_
  replace hf := bd_of hf
  obtain ⟨r1, hc2, hf⟩ := hf
  refine r_Si (pc := 1) (ws' := []) (wc := []) (nn := 0) cx [.int a0] [] (m_Fl_isLost l D K a0 hc2) rfl ys_X1_isLost wd_753 ⟨rfl, rfl⟩ (by decide) (fr_n) rfl (by decide) rfl (Nat.le_of_ble_eq_true rfl) dX1_toWhole_1 ?_
  refine r_if_eq (pc := 4) (tgt := 9) cx dX1_toWhole_4 (by decide) (fun h3 => ?_) (fun h3 => ?_)
  · replace hf := ifp h3 hf
    refine r_iload_n (pc := 9) cx dX1_toWhole_9 0 rfl ?_
    replace hf := bd_of hf
    obtain ⟨r4, hc5, hf⟩ := hf
    refine r_Si (pc := 10) (ws' := []) (wc := []) (nn := 0) cx [.int a0] [] (m_Fl_exponentOf l D K a0 hc5) rfl ys_X1_exponentOf wd_849 ⟨rfl, rfl⟩ (by decide) (fr_n) rfl (by decide) rfl (Nat.le_of_ble_eq_true rfl) dX1_toWhole_10 ?_
    refine r_istore_n (pc := 13) (loc' := [(1, .int r4), (0, .int a0)]) cx dX1_toWhole_13 rfl (by decide) rfl ?_
    refine r_iload_n (pc := 14) cx dX1_toWhole_14 1 rfl ?_
    replace hf := bd_of hf
    obtain ⟨r6, hc7, hf⟩ := hf
    refine r_Sl (pc := 15) (ws' := []) (wc := []) (nn := 0) cx [.int a0] [] (m_Fl_digitsOf l D K a0 hc7) rfl ys_X1_digitsOf wd_852 ⟨rfl, rfl⟩ (by decide) (fr_n) rfl (by decide) rfl (Nat.le_of_ble_eq_true rfl) dX1_toWhole_15 ?_
    refine r_lstore_n (pc := 18) (loc' := [(2, .long r6), (1, .int r4), (0, .int a0)]) cx dX1_toWhole_18 rfl (by decide) rfl ?_
    refine r_iload_n (pc := 19) cx dX1_toWhole_19 1 rfl ?_
    refine r_bipush (pc := 20) cx dX1_toWhole_20 bp_8 ?_
    replace hf := nm_of hf
    obtain ⟨J9, eJ9, hf⟩ := hf
    have hJ9 : ∀ (x8 : Int64), J9 x8 = some r_ → WW p l e rm_Fl_toWhole s m args below meth c D A 4 0 0 (MQ below (QI D K A r_ ([])) args s 0 0 A) ([]) ([(0, .int a0), (2, .long x8)]) ([]) 58 := by
      clear hf
      intro x8 hf
      rw [eJ9] at hf
      refine r_iload_n (pc := 58) cx dX1_toWhole_58 0 rfl ?_
      refine r_if_ge (pc := 59) (tgt := 72) cx dX1_toWhole_59 (by decide) (fun h10 => ?_) (fun h10 => ?_)
      · replace hf := ifp h10 hf
        refine r_lload_n (pc := 72) cx dX1_toWhole_72 1 rfl ?_
        refine r_ldc2 (pc := 73) cx dX1_toWhole_73 wd_858 ?_
        refine r_mminL (pc := 76) cx wd_843 ys_J9_min_f86c9 (by decide) (Nat.le_of_ble_eq_true rfl) dX1_toWhole_76 ?_
        replace hf := nm_of hf
        obtain ⟨x11, ex11, hf⟩ := hf
        refine r_nmL ex11 ?_
        refine r_l2i (pc := 79) cx dX1_toWhole_79 ?_
        have hi := inj1 hf
        exact r_iret (pc := 80) cx hi rfl dX1_toWhole_80
      · replace hf := ifn h10 hf
        refine r_lload_n (pc := 62) cx dX1_toWhole_62 1 rfl ?_
        refine r_ldc2 (pc := 63) cx dX1_toWhole_63 wd_857 ?_
        refine r_mminL (pc := 66) cx wd_843 ys_J9_min_f86c9 (by decide) (Nat.le_of_ble_eq_true rfl) dX1_toWhole_66 ?_
        replace hf := nm_of hf
        obtain ⟨x12, ex12, hf⟩ := hf
        refine r_nmL ex12 ?_
        refine r_lneg (pc := 69) cx dX1_toWhole_69 ?_
        refine r_l2i (pc := 70) cx dX1_toWhole_70 ?_
        have hi := inj1 hf
        exact r_iret (pc := 71) cx hi rfl dX1_toWhole_71
    refine r_icmp_le (pc := 22) (tgt := 32) cx dX1_toWhole_22 (by decide) (fun h13 => ?_) (fun h13 => ?_)
    · replace hf := ifp h13 hf
      refine r_iload_n (pc := 32) cx dX1_toWhole_32 1 rfl ?_
      refine r_if_lt (pc := 33) (tgt := 43) cx dX1_toWhole_33 (by decide) (fun h14 => ?_) (fun h14 => ?_)
      · replace hf := ifp h14 hf
        refine r_iload_n (pc := 43) cx dX1_toWhole_43 1 rfl ?_
        refine r_bipush (pc := 44) cx dX1_toWhole_44 bp_m24 ?_
        refine r_icmp_ge (pc := 46) (tgt := 53) cx dX1_toWhole_46 (by decide) (fun h15 => ?_) (fun h15 => ?_)
        · replace hf := ifp h15 hf
          refine r_lload_n (pc := 53) cx dX1_toWhole_53 0 rfl ?_
          refine r_iload_n (pc := 54) cx dX1_toWhole_54 1 rfl ?_
          refine r_ineg (pc := 55) cx dX1_toWhole_55 ?_
          refine r_lshr (pc := 56) cx dX1_toWhole_56 ?_
          replace hf := nm_of hf
          obtain ⟨x16, ex16, hf⟩ := hf
          refine r_nmL ex16 ?_
          refine r_lstore_n (pc := 57) (loc' := [(2, .long x16), (1, .int r4), (0, .int a0)]) cx dX1_toWhole_57 rfl (by decide) rfl ?_
          refine r_loc (loc' := [(0, .int a0), (2, .long x16)]) [2, 0] rfl ?_
          exact hJ9 _ hf
        · replace hf := ifn h15 hf
          refine r_lconst (pc := 49) cx dX1_toWhole_49 rfl ?_
          refine r_goto (pc := 50) (tgt := 57) cx dX1_toWhole_50 (by decide) ?_
          refine r_lstore_n (pc := 57) (loc' := [(2, .long (0 : Int64)), (1, .int r4), (0, .int a0)]) cx dX1_toWhole_57 rfl (by decide) rfl ?_
          refine r_loc (loc' := [(0, .int a0), (2, .long (0 : Int64))]) [2, 0] rfl ?_
          exact hJ9 _ hf
      · replace hf := ifn h14 hf
        refine r_lload_n (pc := 36) cx dX1_toWhole_36 0 rfl ?_
        refine r_iload_n (pc := 37) cx dX1_toWhole_37 1 rfl ?_
        refine r_lshl (pc := 38) cx dX1_toWhole_38 ?_
        replace hf := nm_of hf
        obtain ⟨x17, ex17, hf⟩ := hf
        refine r_nmL ex17 ?_
        refine r_lstore_n (pc := 39) (loc' := [(2, .long x17), (1, .int r4), (0, .int a0)]) cx dX1_toWhole_39 rfl (by decide) rfl ?_
        refine r_goto (pc := 40) (tgt := 58) cx dX1_toWhole_40 (by decide) ?_
        refine r_loc (loc' := [(0, .int a0), (2, .long x17)]) [2, 0] rfl ?_
        exact hJ9 _ hf
    · replace hf := ifn h13 hf
      refine r_ldc2 (pc := 25) cx dX1_toWhole_25 wd_857 ?_
      refine r_lstore_n (pc := 28) (loc' := [(2, .long (2147483648 : Int64)), (1, .int r4), (0, .int a0)]) cx dX1_toWhole_28 rfl (by decide) rfl ?_
      refine r_goto (pc := 29) (tgt := 58) cx dX1_toWhole_29 (by decide) ?_
      refine r_loc (loc' := [(0, .int a0), (2, .long (2147483648 : Int64))]) [2, 0] rfl ?_
      exact hJ9 _ hf
  · replace hf := ifn h3 hf
    refine r_iconst (pc := 7) cx dX1_toWhole_7 ic_0 ?_
    have hi := inj1 hf
    exact r_iret (pc := 8) cx hi rfl dX1_toWhole_8
theorem ys_X1_toWhole : YS yX1_toWhole cX1_toWhole 4 (some .int) 1 := ⟨⟨by decide +kernel, by decide +kernel, by decide +kernel⟩, wd_848, wd_104, wd_847⟩
abbrev rm_Fl_product : Room := { frames := 3, cells := 0, slots := 0, locals := 75 }
set_option maxRecDepth 100000 in
set_option maxHeartbeats 4000000 in
theorem m_Fl_product (l : Launch) (D : va_G) (K : Nat → ClassId) (a0 : Int32) (a1 : Int32) {r_ : Int32} (hf : f_Fl_product a0 a1 = some r_) : MI l yX1_product cX1_product 2 (some .int) rm_Fl_product D K [.int a0, .int a1] ([]) r_ ([]) := by
  refine MI_of (loc0 := [(0, .int a0), (1, .int a1)]) (by decide +kernel) rfl (Nat.le_of_ble_eq_true rfl) ?_
  intro p e s m args below meth c A cx
  unfold f_Fl_product at hf
  refine r_ws (ws' := []) rfl ?_
  refine r_iload_n (pc := 0) cx dX1_product_0 0 rfl ?_
  replace hf := bd_of hf
  obtain ⟨r1, hc2, hf⟩ := hf
  refine r_Si (pc := 1) (ws' := []) (wc := []) (nn := 0) cx [.int a0] [] (m_Fl_isLost l D K a0 hc2) rfl ys_X1_isLost wd_753 ⟨rfl, rfl⟩ (by decide) (fr_n) rfl (by decide) rfl (Nat.le_of_ble_eq_true rfl) dX1_product_1 ?_
  refine r_if_ne (pc := 4) (tgt := 14) cx dX1_product_4 (by decide) (fun h3 => ?_) (fun h3 => ?_)
  · replace hf := ifn h3 hf
    refine r_ldc (pc := 14) cx dX1_product_14 wd_862 ?_
    have hi := inj1 hf
    exact r_iret (pc := 16) cx hi rfl dX1_product_16
  · replace hf := ifp h3 hf
    refine r_iload_n (pc := 7) cx dX1_product_7 1 rfl ?_
    replace hf := bd_of hf
    obtain ⟨r4, hc5, hf⟩ := hf
    refine r_Si (pc := 8) (ws' := []) (wc := []) (nn := 0) cx [.int a1] [] (m_Fl_isLost l D K a1 hc5) rfl ys_X1_isLost wd_753 ⟨rfl, rfl⟩ (by decide) (fr_n) rfl (by decide) rfl (Nat.le_of_ble_eq_true rfl) dX1_product_8 ?_
    refine r_if_eq (pc := 11) (tgt := 17) cx dX1_product_11 (by decide) (fun h6 => ?_) (fun h6 => ?_)
    · replace hf := ifp h6 hf
      refine r_iload_n (pc := 17) cx dX1_product_17 0 rfl ?_
      refine r_iload_n (pc := 18) cx dX1_product_18 1 rfl ?_
      refine r_ixor (pc := 19) cx dX1_product_19 ?_
      refine r_ldc (pc := 20) cx dX1_product_20 wd_825 ?_
      refine r_iand (pc := 22) cx dX1_product_22 ?_
      refine r_iload_n (pc := 23) cx dX1_product_23 0 rfl ?_
      replace hf := bd_of hf
      obtain ⟨r7, hc8, hf⟩ := hf
      refine r_Sl (pc := 24) (ws' := []) (wc := []) (nn := 0) cx [.int a0] [.int ((a0 ^^^ a1) &&& (-2147483648 : Int32))] (m_Fl_digitsOf l D K a0 hc8) rfl ys_X1_digitsOf wd_852 ⟨rfl, rfl⟩ (by decide) (fr_n) rfl (by decide) rfl (Nat.le_of_ble_eq_true rfl) dX1_product_24 ?_
      refine r_iload_n (pc := 27) cx dX1_product_27 1 rfl ?_
      replace hf := bd_of hf
      obtain ⟨r9, hc10, hf⟩ := hf
      refine r_Sl (pc := 28) (ws' := []) (wc := []) (nn := 0) cx [.int a1] [.long r7, .int ((a0 ^^^ a1) &&& (-2147483648 : Int32))] (m_Fl_digitsOf l D K a1 hc10) rfl ys_X1_digitsOf wd_852 ⟨rfl, rfl⟩ (by decide) (fr_n) rfl (by decide) rfl (Nat.le_of_ble_eq_true rfl) dX1_product_28 ?_
      refine r_lmul (pc := 31) cx dX1_product_31 ?_
      refine r_iload_n (pc := 32) cx dX1_product_32 0 rfl ?_
      replace hf := bd_of hf
      obtain ⟨r11, hc12, hf⟩ := hf
      refine r_Si (pc := 33) (ws' := []) (wc := []) (nn := 0) cx [.int a0] [.long (r7 * r9), .int ((a0 ^^^ a1) &&& (-2147483648 : Int32))] (m_Fl_exponentOf l D K a0 hc12) rfl ys_X1_exponentOf wd_849 ⟨rfl, rfl⟩ (by decide) (fr_n) rfl (by decide) rfl (Nat.le_of_ble_eq_true rfl) dX1_product_33 ?_
      refine r_iload_n (pc := 36) cx dX1_product_36 1 rfl ?_
      replace hf := bd_of hf
      obtain ⟨r13, hc14, hf⟩ := hf
      refine r_Si (pc := 37) (ws' := []) (wc := []) (nn := 0) cx [.int a1] [.int r11, .long (r7 * r9), .int ((a0 ^^^ a1) &&& (-2147483648 : Int32))] (m_Fl_exponentOf l D K a1 hc14) rfl ys_X1_exponentOf wd_849 ⟨rfl, rfl⟩ (by decide) (fr_n) rfl (by decide) rfl (Nat.le_of_ble_eq_true rfl) dX1_product_37 ?_
      refine r_iadd (pc := 40) cx dX1_product_40 ?_
      replace hf := bd_of hf
      obtain ⟨r15, hc16, hf⟩ := hf
      refine r_Si (pc := 41) (ws' := []) (wc := []) (nn := 0) cx [.int ((a0 ^^^ a1) &&& (-2147483648 : Int32)), .long (r7 * r9), .int (r11 + r13)] [] (m_Fl_nearest l D K ((a0 ^^^ a1) &&& (-2147483648 : Int32)) (r7 * r9) (r11 + r13) hc16) rfl ys_X1_nearest wd_829 ⟨rfl, rfl⟩ (by decide) (fr_n) rfl (by decide) rfl (Nat.le_of_ble_eq_true rfl) dX1_product_41 ?_
      have hi := inj1 hf
      exact r_iret (pc := 44) cx hi rfl dX1_product_44
    · replace hf := ifn h6 hf
      refine r_ldc (pc := 14) cx dX1_product_14 wd_862 ?_
      have hi := inj1 hf
      exact r_iret (pc := 16) cx hi rfl dX1_product_16
theorem ys_X1_product : YS yX1_product cX1_product 2 (some .int) 2 := ⟨⟨by decide +kernel, by decide +kernel, by decide +kernel⟩, wd_865, wd_104, wd_864⟩
abbrev rm_Fl_sum : Room := { frames := 3, cells := 0, slots := 0, locals := 75 }
set_option maxRecDepth 100000 in
set_option maxHeartbeats 4000000 in
theorem m_Fl_sum (l : Launch) (D : va_G) (K : Nat → ClassId) (a0 : Int32) (a1 : Int32) {r_ : Int32} (hf : f_Fl_sum a0 a1 = some r_) : MI l yX1_sum cX1_sum 13 (some .int) rm_Fl_sum D K [.int a0, .int a1] ([]) r_ ([]) := by
  refine MI_of (loc0 := [(0, .int a0), (1, .int a1)]) (by decide +kernel) rfl (Nat.le_of_ble_eq_true rfl) ?_
  intro p e s m args below meth c A cx
  unfold f_Fl_sum at hf
  refine r_ws (ws' := []) rfl ?_
  refine r_iload_n (pc := 0) cx dX1_sum_0 0 rfl ?_
  replace hf := bd_of hf
  obtain ⟨r1, hc2, hf⟩ := hf
  refine r_Si (pc := 1) (ws' := []) (wc := []) (nn := 0) cx [.int a0] [] (m_Fl_isLost l D K a0 hc2) rfl ys_X1_isLost wd_753 ⟨rfl, rfl⟩ (by decide) (fr_n) rfl (by decide) rfl (Nat.le_of_ble_eq_true rfl) dX1_sum_1 ?_
  refine r_if_ne (pc := 4) (tgt := 14) cx dX1_sum_4 (by decide) (fun h3 => ?_) (fun h3 => ?_)
  · replace hf := ifn h3 hf
    refine r_ldc (pc := 14) cx dX1_sum_14 wd_862 ?_
    have hi := inj1 hf
    exact r_iret (pc := 16) cx hi rfl dX1_sum_16
  · replace hf := ifp h3 hf
    refine r_iload_n (pc := 7) cx dX1_sum_7 1 rfl ?_
    replace hf := bd_of hf
    obtain ⟨r4, hc5, hf⟩ := hf
    refine r_Si (pc := 8) (ws' := []) (wc := []) (nn := 0) cx [.int a1] [] (m_Fl_isLost l D K a1 hc5) rfl ys_X1_isLost wd_753 ⟨rfl, rfl⟩ (by decide) (fr_n) rfl (by decide) rfl (Nat.le_of_ble_eq_true rfl) dX1_sum_8 ?_
    refine r_if_eq (pc := 11) (tgt := 17) cx dX1_sum_11 (by decide) (fun h6 => ?_) (fun h6 => ?_)
    · replace hf := ifp h6 hf
      refine r_iload_n (pc := 17) cx dX1_sum_17 0 rfl ?_
      replace hf := bd_of hf
      obtain ⟨r7, hc8, hf⟩ := hf
      refine r_Si (pc := 18) (ws' := []) (wc := []) (nn := 0) cx [.int a0] [] (m_Fl_exponentOf l D K a0 hc8) rfl ys_X1_exponentOf wd_849 ⟨rfl, rfl⟩ (by decide) (fr_n) rfl (by decide) rfl (Nat.le_of_ble_eq_true rfl) dX1_sum_18 ?_
      refine r_iload_n (pc := 21) cx dX1_sum_21 1 rfl ?_
      replace hf := bd_of hf
      obtain ⟨r9, hc10, hf⟩ := hf
      refine r_Si (pc := 22) (ws' := []) (wc := []) (nn := 0) cx [.int a1] [.int r7] (m_Fl_exponentOf l D K a1 hc10) rfl ys_X1_exponentOf wd_849 ⟨rfl, rfl⟩ (by decide) (fr_n) rfl (by decide) rfl (Nat.le_of_ble_eq_true rfl) dX1_sum_22 ?_
      replace hf := nm_of hf
      obtain ⟨J12, eJ12, hf⟩ := hf
      have hJ12 : ∀ (y11 : Int32), J12 y11 = some r_ → WW p l e rm_Fl_sum s m args below meth c D A 13 0 0 (MQ below (QI D K A r_ ([])) args s 0 0 A) ([]) ([(0, .int a0), (1, .int a1)]) ([.int y11]) 33 := by
        clear hf
        intro y11 hf
        rw [eJ12] at hf
        refine r_istore_n (pc := 33) (loc' := [(2, .int y11), (0, .int a0), (1, .int a1)]) cx dX1_sum_33 rfl (by decide) rfl ?_
        refine r_iload_n (pc := 34) cx dX1_sum_34 0 rfl ?_
        replace hf := nm_of hf
        obtain ⟨J14, eJ14, hf⟩ := hf
        have hJ14 : ∀ (y13 : Int32), J14 y13 = some r_ → WW p l e rm_Fl_sum s m args below meth c D A 13 0 0 (MQ below (QI D K A r_ ([])) args s 0 0 A) ([]) ([(0, .int a0), (1, .int a1), (2, .int y11)]) ([.int y13]) 43 := by
          clear hf
          intro y13 hf
          rw [eJ14] at hf
          refine r_istore_n (pc := 43) (loc' := [(3, .int y13), (0, .int a0), (1, .int a1), (2, .int y11)]) cx dX1_sum_43 rfl (by decide) rfl ?_
          refine r_iload_n (pc := 44) cx dX1_sum_44 3 rfl ?_
          replace hf := nm_of hf
          obtain ⟨J16, eJ16, hf⟩ := hf
          have hJ16 : ∀ (y15 : Int32), J16 y15 = some r_ → WW p l e rm_Fl_sum s m args below meth c D A 13 0 0 (MQ below (QI D K A r_ ([])) args s 0 0 A) ([]) ([(0, .int a0), (1, .int a1), (3, .int y13)]) ([.int y15]) 53 := by
            clear hf
            intro y15 hf
            rw [eJ16] at hf
            refine r_istore (pc := 53) (loc' := [(4, .int y15), (0, .int a0), (1, .int a1), (3, .int y13)]) cx dX1_sum_53 (by decide) rfl ?_
            refine r_iload_n (pc := 55) cx dX1_sum_55 3 rfl ?_
            replace hf := bd_of hf
            obtain ⟨r17, hc18, hf⟩ := hf
            refine r_Si (pc := 56) (ws' := []) (wc := []) (nn := 0) cx [.int y13] [] (m_Fl_exponentOf l D K y13 hc18) rfl ys_X1_exponentOf wd_849 ⟨rfl, rfl⟩ (by decide) (fr_n) rfl (by decide) rfl (Nat.le_of_ble_eq_true rfl) dX1_sum_56 ?_
            refine r_bipush (pc := 59) cx dX1_sum_59 bp_30 ?_
            refine r_isub (pc := 61) cx dX1_sum_61 ?_
            replace hf := nm_of hf
            obtain ⟨x19, ex19, hf⟩ := hf
            refine r_nm ex19 ?_
            refine r_istore (pc := 62) (loc' := [(5, .int x19), (4, .int y15), (0, .int a0), (1, .int a1), (3, .int y13)]) cx dX1_sum_62 (by decide) rfl ?_
            refine r_iload_n (pc := 64) cx dX1_sum_64 4 rfl ?_
            replace hf := bd_of hf
            obtain ⟨r20, hc21, hf⟩ := hf
            refine r_Si (pc := 65) (ws' := []) (wc := []) (nn := 0) cx [.int y13] [] (m_Fl_exponentOf l D K y13 hc21) rfl ys_X1_exponentOf wd_849 ⟨rfl, rfl⟩ (by decide) (fr_n) rfl (by decide) rfl (Nat.le_of_ble_eq_true rfl) dX1_sum_65 ?_
            refine r_iload (pc := 68) cx dX1_sum_68 1 rfl ?_
            replace hf := bd_of hf
            obtain ⟨r22, hc23, hf⟩ := hf
            refine r_Si (pc := 70) (ws' := []) (wc := []) (nn := 0) cx [.int y15] [.int r20] (m_Fl_exponentOf l D K y15 hc23) rfl ys_X1_exponentOf wd_849 ⟨rfl, rfl⟩ (by decide) (fr_n) rfl (by decide) rfl (Nat.le_of_ble_eq_true rfl) dX1_sum_70 ?_
            refine r_isub (pc := 73) cx dX1_sum_73 ?_
            replace hf := nm_of hf
            obtain ⟨x24, ex24, hf⟩ := hf
            refine r_nm ex24 ?_
            refine r_istore (pc := 74) (loc' := [(6, .int x24), (5, .int x19), (4, .int y15), (0, .int a0), (1, .int a1), (3, .int y13)]) cx dX1_sum_74 (by decide) rfl ?_
            refine r_iload_n (pc := 76) cx dX1_sum_76 5 rfl ?_
            replace hf := bd_of hf
            obtain ⟨r25, hc26, hf⟩ := hf
            refine r_Sl (pc := 77) (ws' := []) (wc := []) (nn := 0) cx [.int y13] [] (m_Fl_digitsOf l D K y13 hc26) rfl ys_X1_digitsOf wd_852 ⟨rfl, rfl⟩ (by decide) (fr_n) rfl (by decide) rfl (Nat.le_of_ble_eq_true rfl) dX1_sum_77 ?_
            refine r_bipush (pc := 80) cx dX1_sum_80 bp_30 ?_
            refine r_lshl (pc := 82) cx dX1_sum_82 ?_
            replace hf := nm_of hf
            obtain ⟨x27, ex27, hf⟩ := hf
            refine r_nmL ex27 ?_
            refine r_lstore (pc := 83) (loc' := [(7, .long x27), (6, .int x24), (5, .int x19), (4, .int y15), (0, .int a0), (1, .int a1), (3, .int y13)]) cx dX1_sum_83 (by decide) rfl ?_
            refine r_iload (pc := 85) cx dX1_sum_85 1 rfl ?_
            refine r_bipush (pc := 87) cx dX1_sum_87 bp_62 ?_
            replace hf := nm_of hf
            obtain ⟨J29, eJ29, hf⟩ := hf
            have hJ29 : ∀ (y28 : Int64), J29 y28 = some r_ → WW p l e rm_Fl_sum s m args below meth c D A 13 0 0 (MQ below (QI D K A r_ ([])) args s 0 0 A) ([]) ([(0, .int a0), (1, .int a1), (3, .int y13), (4, .int y15), (5, .int x19), (7, .long x27)]) ([.long y28]) 107 := by
              clear hf
              intro y28 hf
              rw [eJ29] at hf
              refine r_lstore (pc := 107) (loc' := [(9, .long y28), (0, .int a0), (1, .int a1), (3, .int y13), (4, .int y15), (5, .int x19), (7, .long x27)]) cx dX1_sum_107 (by decide) rfl ?_
              refine r_iload_n (pc := 109) cx dX1_sum_109 3 rfl ?_
              replace hf := nm_of hf
              obtain ⟨J31, eJ31, hf⟩ := hf
              have hJ31 : ∀ (y30 : Int64), J31 y30 = some r_ → WW p l e rm_Fl_sum s m args below meth c D A 13 0 0 (MQ below (QI D K A r_ ([])) args s 0 0 A) ([]) ([(0, .int a0), (1, .int a1), (4, .int y15), (5, .int x19), (9, .long y28)]) ([.long y30]) 121 := by
                clear hf
                intro y30 hf
                rw [eJ31] at hf
                refine r_iload (pc := 121) cx dX1_sum_121 2 rfl ?_
                replace hf := nm_of hf
                obtain ⟨J33, eJ33, hf⟩ := hf
                have hJ33 : ∀ (y32 : Int64), J33 y32 = some r_ → WW p l e rm_Fl_sum s m args below meth c D A 13 0 0 (MQ below (QI D K A r_ ([])) args s 0 0 A) ([]) ([(0, .int a0), (1, .int a1), (5, .int x19)]) ([.long y32, .long y30]) 134 := by
                  clear hf
                  intro y32 hf
                  rw [eJ33] at hf
                  refine r_ladd (pc := 134) cx dX1_sum_134 ?_
                  replace hf := nm_of hf
                  obtain ⟨x34, ex34, hf⟩ := hf
                  refine r_nmL ex34 ?_
                  refine r_lstore (pc := 135) (loc' := [(11, .long x34), (0, .int a0), (1, .int a1), (5, .int x19)]) cx dX1_sum_135 (by decide) rfl ?_
                  refine r_lload (pc := 137) cx dX1_sum_137 0 rfl ?_
                  refine r_lconst (pc := 139) cx dX1_sum_139 rfl ?_
                  refine r_lcmp (pc := 140) cx dX1_sum_140 ?_
                  refine r_if_ne (pc := 141) (tgt := 151) cx dX1_sum_141 (by decide) (fun h35 => ?_) (fun h35 => ?_)
                  · replace hf := ifn h35 hf
                    refine r_lload (pc := 151) cx dX1_sum_151 0 rfl ?_
                    refine r_lconst (pc := 153) cx dX1_sum_153 rfl ?_
                    refine r_lcmp (pc := 154) cx dX1_sum_154 ?_
                    replace hf := nm_of hf
                    obtain ⟨J37, eJ37, hf⟩ := hf
                    have hJ37 : ∀ (y36 : Int32), J37 y36 = some r_ → WW p l e rm_Fl_sum s m args below meth c D A 13 0 0 (MQ below (QI D K A r_ ([])) args s 0 0 A) ([]) ([(5, .int x19), (11, .long x34)]) ([.int y36]) 164 := by
                      clear hf
                      intro y36 hf
                      rw [eJ37] at hf
                      refine r_lload (pc := 164) cx dX1_sum_164 1 rfl ?_
                      refine r_mabsL (pc := 166) cx wd_826 ys_J9_abs_067f4 (by decide) (Nat.le_of_ble_eq_true rfl) dX1_sum_166 ?_
                      replace hf := nm_of hf
                      obtain ⟨x38, ex38, hf⟩ := hf
                      refine r_nmL ex38 ?_
                      refine r_iload (pc := 169) cx dX1_sum_169 0 rfl ?_
                      replace hf := bd_of hf
                      obtain ⟨r39, hc40, hf⟩ := hf
                      refine r_Si (pc := 171) (ws' := []) (wc := []) (nn := 0) cx [.int y36, .long x38, .int x19] [] (m_Fl_nearest l D K y36 x38 x19 hc40) rfl ys_X1_nearest wd_829 ⟨rfl, rfl⟩ (by decide) (fr_n) rfl (by decide) rfl (Nat.le_of_ble_eq_true rfl) dX1_sum_171 ?_
                      have hi := inj1 hf
                      exact r_iret (pc := 174) cx hi rfl dX1_sum_174
                    refine r_if_ge (pc := 155) (tgt := 163) cx dX1_sum_155 (by decide) (fun h41 => ?_) (fun h41 => ?_)
                    · replace hf := ifp h41 hf
                      refine r_iconst (pc := 163) cx dX1_sum_163 ic_0 ?_
                      refine r_loc (loc' := [(5, .int x19), (11, .long x34)]) [3, 0] rfl ?_
                      exact hJ37 _ hf
                    · replace hf := ifn h41 hf
                      refine r_ldc (pc := 158) cx dX1_sum_158 wd_825 ?_
                      refine r_goto (pc := 160) (tgt := 164) cx dX1_sum_160 (by decide) ?_
                      refine r_loc (loc' := [(5, .int x19), (11, .long x34)]) [3, 0] rfl ?_
                      exact hJ37 _ hf
                  · replace hf := ifp h35 hf
                    refine r_iload_n (pc := 144) cx dX1_sum_144 1 rfl ?_
                    refine r_iload_n (pc := 145) cx dX1_sum_145 2 rfl ?_
                    refine r_iand (pc := 146) cx dX1_sum_146 ?_
                    refine r_ldc (pc := 147) cx dX1_sum_147 wd_825 ?_
                    refine r_iand (pc := 149) cx dX1_sum_149 ?_
                    have hi := inj1 hf
                    exact r_iret (pc := 150) cx hi rfl dX1_sum_150
                refine r_if_ge (pc := 123) (tgt := 132) cx dX1_sum_123 (by decide) (fun h42 => ?_) (fun h42 => ?_)
                · replace hf := ifp h42 hf
                  refine r_lload (pc := 132) cx dX1_sum_132 4 rfl ?_
                  refine r_loc (loc' := [(0, .int a0), (1, .int a1), (5, .int x19)]) [0, 1, 3] rfl ?_
                  exact hJ33 _ hf
                · replace hf := ifn h42 hf
                  refine r_lload (pc := 126) cx dX1_sum_126 4 rfl ?_
                  refine r_lneg (pc := 128) cx dX1_sum_128 ?_
                  refine r_goto (pc := 129) (tgt := 134) cx dX1_sum_129 (by decide) ?_
                  refine r_loc (loc' := [(0, .int a0), (1, .int a1), (5, .int x19)]) [0, 1, 3] rfl ?_
                  exact hJ33 _ hf
              refine r_if_ge (pc := 110) (tgt := 119) cx dX1_sum_110 (by decide) (fun h43 => ?_) (fun h43 => ?_)
              · replace hf := ifp h43 hf
                refine r_lload (pc := 119) cx dX1_sum_119 6 rfl ?_
                refine r_loc (loc' := [(0, .int a0), (1, .int a1), (4, .int y15), (5, .int x19), (9, .long y28)]) [1, 2, 4, 5, 0] rfl ?_
                exact hJ31 _ hf
              · replace hf := ifn h43 hf
                refine r_lload (pc := 113) cx dX1_sum_113 6 rfl ?_
                refine r_lneg (pc := 115) cx dX1_sum_115 ?_
                refine r_goto (pc := 116) (tgt := 121) cx dX1_sum_116 (by decide) ?_
                refine r_loc (loc' := [(0, .int a0), (1, .int a1), (4, .int y15), (5, .int x19), (9, .long y28)]) [1, 2, 4, 5, 0] rfl ?_
                exact hJ31 _ hf
            refine r_icmp_le (pc := 89) (tgt := 96) cx dX1_sum_89 (by decide) (fun h44 => ?_) (fun h44 => ?_)
            · replace hf := ifp h44 hf
              refine r_iload (pc := 96) cx dX1_sum_96 3 rfl ?_
              replace hf := bd_of hf
              obtain ⟨r45, hc46, hf⟩ := hf
              refine r_Sl (pc := 98) (ws' := []) (wc := []) (nn := 0) cx [.int y15] [] (m_Fl_digitsOf l D K y15 hc46) rfl ys_X1_digitsOf wd_852 ⟨rfl, rfl⟩ (by decide) (fr_n) rfl (by decide) rfl (Nat.le_of_ble_eq_true rfl) dX1_sum_98 ?_
              refine r_bipush (pc := 101) cx dX1_sum_101 bp_30 ?_
              refine r_lshl (pc := 103) cx dX1_sum_103 ?_
              refine r_iload (pc := 104) cx dX1_sum_104 1 rfl ?_
              refine r_lshr (pc := 106) cx dX1_sum_106 ?_
              refine r_loc (loc' := [(0, .int a0), (1, .int a1), (3, .int y13), (4, .int y15), (5, .int x19), (7, .long x27)]) [4, 5, 6, 3, 2, 0] rfl ?_
              exact hJ29 _ hf
            · replace hf := ifn h44 hf
              refine r_lconst (pc := 92) cx dX1_sum_92 rfl ?_
              refine r_goto (pc := 93) (tgt := 107) cx dX1_sum_93 (by decide) ?_
              refine r_loc (loc' := [(0, .int a0), (1, .int a1), (3, .int y13), (4, .int y15), (5, .int x19), (7, .long x27)]) [4, 5, 6, 3, 2, 0] rfl ?_
              exact hJ29 _ hf
          refine r_if_eq (pc := 45) (tgt := 52) cx dX1_sum_45 (by decide) (fun h47 => ?_) (fun h47 => ?_)
          · replace hf := ifp h47 hf
            refine r_iload_n (pc := 52) cx dX1_sum_52 1 rfl ?_
            refine r_loc (loc' := [(0, .int a0), (1, .int a1), (3, .int y13)]) [1, 2, 0] rfl ?_
            exact hJ16 _ hf
          · replace hf := ifn h47 hf
            refine r_iload_n (pc := 48) cx dX1_sum_48 2 rfl ?_
            refine r_goto (pc := 49) (tgt := 53) cx dX1_sum_49 (by decide) ?_
            refine r_loc (loc' := [(0, .int a0), (1, .int a1), (3, .int y13)]) [1, 2, 0] rfl ?_
            exact hJ16 _ hf
        refine r_if_eq (pc := 35) (tgt := 42) cx dX1_sum_35 (by decide) (fun h48 => ?_) (fun h48 => ?_)
        · replace hf := ifp h48 hf
          refine r_iload_n (pc := 42) cx dX1_sum_42 2 rfl ?_
          refine r_loc (loc' := [(0, .int a0), (1, .int a1), (2, .int y11)]) [1, 2, 0] rfl ?_
          exact hJ14 _ hf
        · replace hf := ifn h48 hf
          refine r_iload_n (pc := 38) cx dX1_sum_38 1 rfl ?_
          refine r_goto (pc := 39) (tgt := 43) cx dX1_sum_39 (by decide) ?_
          refine r_loc (loc' := [(0, .int a0), (1, .int a1), (2, .int y11)]) [1, 2, 0] rfl ?_
          exact hJ14 _ hf
      refine r_icmp_lt (pc := 25) (tgt := 32) cx dX1_sum_25 (by decide) (fun h49 => ?_) (fun h49 => ?_)
      · replace hf := ifp h49 hf
        refine r_iconst (pc := 32) cx dX1_sum_32 ic_0 ?_
        exact hJ12 _ hf
      · replace hf := ifn h49 hf
        refine r_iconst (pc := 28) cx dX1_sum_28 ic_1 ?_
        refine r_goto (pc := 29) (tgt := 33) cx dX1_sum_29 (by decide) ?_
        exact hJ12 _ hf
    · replace hf := ifn h6 hf
      refine r_ldc (pc := 14) cx dX1_sum_14 wd_862 ?_
      have hi := inj1 hf
      exact r_iret (pc := 16) cx hi rfl dX1_sum_16
theorem ys_X1_sum : YS yX1_sum cX1_sum 13 (some .int) 2 := ⟨⟨by decide +kernel, by decide +kernel, by decide +kernel⟩, wd_861, wd_104, wd_860⟩
abbrev rm_Fl_quotient : Room := { frames := 3, cells := 0, slots := 0, locals := 75 }
set_option maxRecDepth 100000 in
set_option maxHeartbeats 4000000 in
theorem m_Fl_quotient (l : Launch) (D : va_G) (K : Nat → ClassId) (a0 : Int32) (a1 : Int32) {r_ : Int32} (hf : f_Fl_quotient a0 a1 = some r_) : MI l yX1_quotient cX1_quotient 8 (some .int) rm_Fl_quotient D K [.int a0, .int a1] ([]) r_ ([]) := by
  refine MI_of (loc0 := [(0, .int a0), (1, .int a1)]) (by decide +kernel) rfl (Nat.le_of_ble_eq_true rfl) ?_
  intro p e s m args below meth c A cx
  unfold f_Fl_quotient at hf
  refine r_ws (ws' := []) rfl ?_
  refine r_iload_n (pc := 0) cx dX1_quotient_0 1 rfl ?_
  replace hf := bd_of hf
  obtain ⟨r1, hc2, hf⟩ := hf
  refine r_Sl (pc := 1) (ws' := []) (wc := []) (nn := 0) cx [.int a1] [] (m_Fl_digitsOf l D K a1 hc2) rfl ys_X1_digitsOf wd_852 ⟨rfl, rfl⟩ (by decide) (fr_n) rfl (by decide) rfl (Nat.le_of_ble_eq_true rfl) dX1_quotient_1 ?_
  refine r_lstore_n (pc := 4) (loc' := [(2, .long r1), (0, .int a0), (1, .int a1)]) cx dX1_quotient_4 rfl (by decide) rfl ?_
  refine r_lload_n (pc := 5) cx dX1_quotient_5 0 rfl ?_
  refine r_lconst (pc := 6) cx dX1_quotient_6 rfl ?_
  refine r_lcmp (pc := 7) cx dX1_quotient_7 ?_
  refine r_if_gt (pc := 8) (tgt := 13) cx dX1_quotient_8 (by decide) (fun h3 => ?_) (fun h3 => ?_)
  · replace hf := ifp h3 hf
    refine r_iload_n (pc := 13) cx dX1_quotient_13 1 rfl ?_
    replace hf := bd_of hf
    obtain ⟨r4, hc5, hf⟩ := hf
    refine r_Sl (pc := 14) (ws' := []) (wc := []) (nn := 0) cx [.int a0] [] (m_Fl_digitsOf l D K a0 hc5) rfl ys_X1_digitsOf wd_852 ⟨rfl, rfl⟩ (by decide) (fr_n) rfl (by decide) rfl (Nat.le_of_ble_eq_true rfl) dX1_quotient_14 ?_
    refine r_bipush (pc := 17) cx dX1_quotient_17 bp_30 ?_
    refine r_lshl (pc := 19) cx dX1_quotient_19 ?_
    replace hf := nm_of hf
    obtain ⟨x6, ex6, hf⟩ := hf
    refine r_nmL ex6 ?_
    refine r_lstore (pc := 20) (loc' := [(4, .long x6), (2, .long r1), (0, .int a0), (1, .int a1)]) cx dX1_quotient_20 (by decide) rfl ?_
    refine r_lload (pc := 22) cx dX1_quotient_22 0 rfl ?_
    refine r_lload_n (pc := 24) cx dX1_quotient_24 1 rfl ?_
    replace hf := chk_of hf
    obtain ⟨h7, hf⟩ := hf
    refine r_lrem (pc := 25) cx dX1_quotient_25 h7 ?_
    refine r_lconst (pc := 26) cx dX1_quotient_26 rfl ?_
    refine r_lcmp (pc := 27) cx dX1_quotient_27 ?_
    replace hf := nm_of hf
    obtain ⟨J9, eJ9, hf⟩ := hf
    have hJ9 : ∀ (y8 : Int64), J9 y8 = some r_ → WW p l e rm_Fl_quotient s m args below meth c D A 8 0 0 (MQ below (QI D K A r_ ([])) args s 0 0 A) ([]) ([(0, .int a0), (1, .int a1), (2, .long r1), (4, .long x6)]) ([.long y8]) 36 := by
      clear hf
      intro y8 hf
      rw [eJ9] at hf
      refine r_lstore (pc := 36) (loc' := [(6, .long y8), (0, .int a0), (1, .int a1), (2, .long r1), (4, .long x6)]) cx dX1_quotient_36 (by decide) rfl ?_
      refine r_iconst (pc := 38) cx dX1_quotient_38 ic_0 ?_
      refine r_lload (pc := 39) cx dX1_quotient_39 4 rfl ?_
      refine r_lload_n (pc := 41) cx dX1_quotient_41 3 rfl ?_
      replace hf := chk_of hf
      obtain ⟨h10, hf⟩ := hf
      refine r_ldiv (pc := 42) cx dX1_quotient_42 h10 ?_
      refine r_lload (pc := 43) cx dX1_quotient_43 0 rfl ?_
      refine r_lor (pc := 45) cx dX1_quotient_45 ?_
      refine r_iload_n (pc := 46) cx dX1_quotient_46 1 rfl ?_
      replace hf := bd_of hf
      obtain ⟨r11, hc12, hf⟩ := hf
      refine r_Si (pc := 47) (ws' := []) (wc := []) (nn := 0) cx [.int a0] [.long ((x6 / r1) ||| y8), .int (0 : Int32)] (m_Fl_exponentOf l D K a0 hc12) rfl ys_X1_exponentOf wd_849 ⟨rfl, rfl⟩ (by decide) (fr_n) rfl (by decide) rfl (Nat.le_of_ble_eq_true rfl) dX1_quotient_47 ?_
      refine r_iload_n (pc := 50) cx dX1_quotient_50 2 rfl ?_
      replace hf := bd_of hf
      obtain ⟨r13, hc14, hf⟩ := hf
      refine r_Si (pc := 51) (ws' := []) (wc := []) (nn := 0) cx [.int a1] [.int r11, .long ((x6 / r1) ||| y8), .int (0 : Int32)] (m_Fl_exponentOf l D K a1 hc14) rfl ys_X1_exponentOf wd_849 ⟨rfl, rfl⟩ (by decide) (fr_n) rfl (by decide) rfl (Nat.le_of_ble_eq_true rfl) dX1_quotient_51 ?_
      refine r_isub (pc := 54) cx dX1_quotient_54 ?_
      refine r_bipush (pc := 55) cx dX1_quotient_55 bp_30 ?_
      refine r_isub (pc := 57) cx dX1_quotient_57 ?_
      replace hf := bd_of hf
      obtain ⟨r15, hc16, hf⟩ := hf
      refine r_Si (pc := 58) (ws' := []) (wc := []) (nn := 0) cx [.int (0 : Int32), .long ((x6 / r1) ||| y8), .int ((r11 - r13) - (30 : Int32))] [] (m_Fl_nearest l D K (0 : Int32) ((x6 / r1) ||| y8) ((r11 - r13) - (30 : Int32)) hc16) rfl ys_X1_nearest wd_829 ⟨rfl, rfl⟩ (by decide) (fr_n) rfl (by decide) rfl (Nat.le_of_ble_eq_true rfl) dX1_quotient_58 ?_
      have hi := inj1 hf
      exact r_iret (pc := 61) cx hi rfl dX1_quotient_61
    refine r_if_ne (pc := 28) (tgt := 35) cx dX1_quotient_28 (by decide) (fun h17 => ?_) (fun h17 => ?_)
    · replace hf := ifn h17 hf
      refine r_lconst (pc := 35) cx dX1_quotient_35 rfl ?_
      refine r_loc (loc' := [(0, .int a0), (1, .int a1), (2, .long r1), (4, .long x6)]) [2, 3, 1, 0] rfl ?_
      exact hJ9 _ hf
    · replace hf := ifp h17 hf
      refine r_lconst (pc := 31) cx dX1_quotient_31 rfl ?_
      refine r_goto (pc := 32) (tgt := 36) cx dX1_quotient_32 (by decide) ?_
      refine r_loc (loc' := [(0, .int a0), (1, .int a1), (2, .long r1), (4, .long x6)]) [2, 3, 1, 0] rfl ?_
      exact hJ9 _ hf
  · replace hf := ifn h3 hf
    refine r_iconst (pc := 11) cx dX1_quotient_11 ic_0 ?_
    have hi := inj1 hf
    exact r_iret (pc := 12) cx hi rfl dX1_quotient_12
theorem ys_X1_quotient : YS yX1_quotient cX1_quotient 8 (some .int) 2 := ⟨⟨by decide +kernel, by decide +kernel, by decide +kernel⟩, wd_1142, wd_104, wd_1141⟩
