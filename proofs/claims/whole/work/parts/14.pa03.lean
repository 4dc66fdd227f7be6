abbrev rm_Pa_whyLeaderWaits : Room := { frames := 1, cells := 0, slots := 0, locals := 20 }
set_option maxRecDepth 100000 in
set_option maxHeartbeats 4000000 in
theorem m_Pa_whyLeaderWaits (l : Launch) (D : va_G) (K : Nat → ClassId) (q : Nat → Nat) (v : T_Pa) (g : Nat → Nat) (pr : T_Pg) {r_ : Int32} (hf : f_Pa_whyLeaderWaits v pr = some r_) : MI l yX3_whyLeaderWaits cX3_whyLeaderWaits 3 (some .int) rm_Pa_whyLeaderWaits D K [.ref (q 0)] (cl_Pa K q (g 0) v ++ (cl_Pg K g pr)) r_ (cl_Pa K q (g 0) v ++ (cl_Pg K g pr)) := by
  refine MI_of (loc0 := [(0, .ref (q 0))]) (by decide +kernel) rfl (Nat.le_of_ble_eq_true rfl) ?_
  intro p e s m args below meth c A cx
  unfold f_Pa_whyLeaderWaits at hf
  refine r_ws (ws' := [((q 0), ob 2 [.ref (q 1), .ref (q 2), .ref (q 7), .ref (q 12), .ref (q 17), .ref (q 25), .ref (q 31), .ref (g 0), .int (Pa_done v), .int (Pa_down v)]), ((q 1), aI K 8 (Pa_rules v)), ((q 2), ob 6 [.ref (q 3), .ref (q 4), .ref (q 5), .ref (q 6), .int (St_place (Pa_leader v)), .int (St_steps (Pa_leader v))]), ((q 3), aI K 8 (St_registers (Pa_leader v))), ((q 4), aI K 4 (St_floats (Pa_leader v))), ((q 5), aI K 8 (St_stuckMask (Pa_leader v))), ((q 6), aI K 8 (St_stuckOnes (Pa_leader v))), ((q 7), ob 6 [.ref (q 8), .ref (q 9), .ref (q 10), .ref (q 11), .int (St_place (Pa_trailer v)), .int (St_steps (Pa_trailer v))]), ((q 8), aI K 8 (St_registers (Pa_trailer v))), ((q 9), aI K 4 (St_floats (Pa_trailer v))), ((q 10), aI K 8 (St_stuckMask (Pa_trailer v))), ((q 11), aI K 8 (St_stuckOnes (Pa_trailer v))), ((q 12), ob 6 [.ref (q 13), .ref (q 14), .ref (q 15), .ref (q 16), .int (St_place (Pa_point v)), .int (St_steps (Pa_point v))]), ((q 13), aI K 8 (St_registers (Pa_point v))), ((q 14), aI K 4 (St_floats (Pa_point v))), ((q 15), aI K 8 (St_stuckMask (Pa_point v))), ((q 16), aI K 8 (St_stuckOnes (Pa_point v))), ((q 17), ob 4 [.ref (q 18), .ref (q 19), .ref (q 20), .ref (q 21), .ref (q 22), .ref (q 23), .ref (q 24), .int (Qu_firstLoad (Pa_queues v)), .int (Qu_loads (Pa_queues v)), .int (Qu_firstBranch (Pa_queues v)), .int (Qu_branches (Pa_queues v)), .int (Qu_held (Pa_queues v)), .int (Qu_comparedHeld (Pa_queues v))]), ((q 18), aI K 8 (Qu_loadAddress (Pa_queues v))), ((q 19), aI K 8 (Qu_loadWord (Pa_queues v))), ((q 20), aI K 8 (Qu_branch (Pa_queues v))), ((q 21), aI K 8 (Qu_heldAddress (Pa_queues v))), ((q 22), aI K 8 (Qu_heldWord (Pa_queues v))), ((q 23), aI K 8 (Qu_besideAddress (Pa_queues v))), ((q 24), aI K 8 (Qu_besideWord (Pa_queues v))), ((q 25), ob 1 [.ref (q 26), .ref (q 27), .ref (q 28), .ref (q 29), .ref (q 30), .int (Ou_stores (Pa_outside v)), .int (Ou_outputs (Pa_outside v))]), ((q 26), aI K 32 (Ou_memory (Pa_outside v))), ((q 27), aI K 40 (Ou_output (Pa_outside v))), ((q 28), aI K 16 (Ou_leftAddress (Pa_outside v))), ((q 29), aI K 16 (Ou_leftWord (Pa_outside v))), ((q 30), aI K 16 (Ou_leftPoint (Pa_outside v))), ((q 31), ob 7 [.ref (q 32), .ref (q 33), .ref (q 34), .ref (q 35), .int (Ta_turns (Pa_tally v)), .int (Ta_points (Pa_tally v)), .int (Ta_alarms (Pa_tally v)), .int (Ta_alarmsSincePoint (Pa_tally v)), .int (Ta_greatestAhead (Pa_tally v)), .int (Ta_aheadSum (Pa_tally v)), .int (Ta_leaderTurns (Pa_tally v)), .int (Ta_trailerTurns (Pa_tally v)), .int (Ta_comparedSteps (Pa_tally v))]), ((q 32), aI K 8 (Ta_alarmSort (Pa_tally v))), ((q 33), aI K 8 (Ta_alarmTurn (Pa_tally v))), ((q 34), aI K 8 (Ta_alarmLeaderSteps (Pa_tally v))), ((q 35), aI K 8 (Ta_alarmTrailerSteps (Pa_tally v))), ((g 0), ob 3 [.ref (g 1), .ref (g 2), .ref (g 3), .ref (g 4), .ref (g 5), .ref (g 6), .ref (g 7), .ref (g 8), .int (Pg_nameCount pr), .int (Pg_size pr), .int (Pg_lines pr)]), ((g 1), aI K 64 (Pg_code pr)), ((g 2), aI K 64 (Pg_first pr)), ((g 3), aI K 64 (Pg_second pr)), ((g 4), aI K 64 (Pg_third pr)), ((g 5), aI K 8 (Pg_rules pr)), ((g 6), aI K 32 (Pg_data pr)), ((g 7), aI K 140 (Pg_names pr)), ((g 8), aI K 140 (Pg_namedPlaces pr))]) rfl ?_
  refine r_aload_n (pc := 0) cx dX3_whyLeaderWaits_0 0 rfl ?_
  refine r_get (pc := 1) cx cf_X3 0 1 rfl (by decide) rfl wd_512 dX3_whyLeaderWaits_1 ?_
  refine r_get (pc := 4) cx cf_X7 2 5 rfl (by decide) rfl wd_322 dX3_whyLeaderWaits_4 ?_
  refine r_aload_n (pc := 7) cx dX3_whyLeaderWaits_7 0 rfl ?_
  refine r_get (pc := 8) cx cf_X3 0 0 rfl (by decide) rfl wd_510 dX3_whyLeaderWaits_8 ?_
  refine r_iconst (pc := 11) cx dX3_whyLeaderWaits_11 ic_0 ?_
  refine r_iald (pc := 12) cx 1 rfl (by decide) dX3_whyLeaderWaits_12 ?_
  refine r_icmp_lt (pc := 13) (tgt := 18) cx dX3_whyLeaderWaits_13 (by decide) (fun h1 => ?_) (fun h1 => ?_)
  · replace hf := ifp h1 hf
    refine r_aload_n (pc := 18) cx dX3_whyLeaderWaits_18 0 rfl ?_
    refine r_get (pc := 19) cx cf_X3 0 7 rfl (by decide) rfl wd_524 dX3_whyLeaderWaits_19 ?_
    refine r_get (pc := 22) cx cf_X4 36 0 rfl (by decide) rfl wd_135 dX3_whyLeaderWaits_22 ?_
    refine r_aload_n (pc := 25) cx dX3_whyLeaderWaits_25 0 rfl ?_
    refine r_get (pc := 26) cx cf_X3 0 1 rfl (by decide) rfl wd_512 dX3_whyLeaderWaits_26 ?_
    refine r_get (pc := 29) cx cf_X7 2 4 rfl (by decide) rfl wd_319 dX3_whyLeaderWaits_29 ?_
    refine r_bipush (pc := 32) cx dX3_whyLeaderWaits_32 bp_63 ?_
    refine r_iand (pc := 34) cx dX3_whyLeaderWaits_34 ?_
    refine r_iald (pc := 35) cx 37 rfl (ix_and63 _) dX3_whyLeaderWaits_35 ?_
    replace hf := nm_of hf
    obtain ⟨x2, ex2, hf⟩ := hf
    refine r_nm ex2 ?_
    refine r_istore_n (pc := 36) (loc' := [(1, .int x2), (0, .ref (q 0))]) cx dX3_whyLeaderWaits_36 rfl (by decide) rfl ?_
    refine r_iload_n (pc := 37) cx dX3_whyLeaderWaits_37 0 rfl ?_
    refine r_if_ne (pc := 38) (tgt := 43) cx dX3_whyLeaderWaits_38 (by decide) (fun h3 => ?_) (fun h3 => ?_)
    · replace hf := ifn h3 hf
      refine r_aload_n (pc := 43) cx dX3_whyLeaderWaits_43 1 rfl ?_
      replace hf := bd_of hf
      obtain ⟨r4, hc5, hf⟩ := hf
      refine r_Vi (pc := 44) (ws' := [((q 0), ob 2 [.ref (q 1), .ref (q 2), .ref (q 7), .ref (q 12), .ref (q 17), .ref (q 25), .ref (q 31), .ref (g 0), .int (Pa_done v), .int (Pa_down v)]), ((q 1), aI K 8 (Pa_rules v)), ((q 2), ob 6 [.ref (q 3), .ref (q 4), .ref (q 5), .ref (q 6), .int (St_place (Pa_leader v)), .int (St_steps (Pa_leader v))]), ((q 3), aI K 8 (St_registers (Pa_leader v))), ((q 4), aI K 4 (St_floats (Pa_leader v))), ((q 5), aI K 8 (St_stuckMask (Pa_leader v))), ((q 6), aI K 8 (St_stuckOnes (Pa_leader v))), ((q 7), ob 6 [.ref (q 8), .ref (q 9), .ref (q 10), .ref (q 11), .int (St_place (Pa_trailer v)), .int (St_steps (Pa_trailer v))]), ((q 8), aI K 8 (St_registers (Pa_trailer v))), ((q 9), aI K 4 (St_floats (Pa_trailer v))), ((q 10), aI K 8 (St_stuckMask (Pa_trailer v))), ((q 11), aI K 8 (St_stuckOnes (Pa_trailer v))), ((q 12), ob 6 [.ref (q 13), .ref (q 14), .ref (q 15), .ref (q 16), .int (St_place (Pa_point v)), .int (St_steps (Pa_point v))]), ((q 13), aI K 8 (St_registers (Pa_point v))), ((q 14), aI K 4 (St_floats (Pa_point v))), ((q 15), aI K 8 (St_stuckMask (Pa_point v))), ((q 16), aI K 8 (St_stuckOnes (Pa_point v))), ((q 17), ob 4 [.ref (q 18), .ref (q 19), .ref (q 20), .ref (q 21), .ref (q 22), .ref (q 23), .ref (q 24), .int (Qu_firstLoad (Pa_queues v)), .int (Qu_loads (Pa_queues v)), .int (Qu_firstBranch (Pa_queues v)), .int (Qu_branches (Pa_queues v)), .int (Qu_held (Pa_queues v)), .int (Qu_comparedHeld (Pa_queues v))]), ((q 18), aI K 8 (Qu_loadAddress (Pa_queues v))), ((q 19), aI K 8 (Qu_loadWord (Pa_queues v))), ((q 20), aI K 8 (Qu_branch (Pa_queues v))), ((q 21), aI K 8 (Qu_heldAddress (Pa_queues v))), ((q 22), aI K 8 (Qu_heldWord (Pa_queues v))), ((q 23), aI K 8 (Qu_besideAddress (Pa_queues v))), ((q 24), aI K 8 (Qu_besideWord (Pa_queues v))), ((q 25), ob 1 [.ref (q 26), .ref (q 27), .ref (q 28), .ref (q 29), .ref (q 30), .int (Ou_stores (Pa_outside v)), .int (Ou_outputs (Pa_outside v))]), ((q 26), aI K 32 (Ou_memory (Pa_outside v))), ((q 27), aI K 40 (Ou_output (Pa_outside v))), ((q 28), aI K 16 (Ou_leftAddress (Pa_outside v))), ((q 29), aI K 16 (Ou_leftWord (Pa_outside v))), ((q 30), aI K 16 (Ou_leftPoint (Pa_outside v))), ((q 31), ob 7 [.ref (q 32), .ref (q 33), .ref (q 34), .ref (q 35), .int (Ta_turns (Pa_tally v)), .int (Ta_points (Pa_tally v)), .int (Ta_alarms (Pa_tally v)), .int (Ta_alarmsSincePoint (Pa_tally v)), .int (Ta_greatestAhead (Pa_tally v)), .int (Ta_aheadSum (Pa_tally v)), .int (Ta_leaderTurns (Pa_tally v)), .int (Ta_trailerTurns (Pa_tally v)), .int (Ta_comparedSteps (Pa_tally v))]), ((q 32), aI K 8 (Ta_alarmSort (Pa_tally v))), ((q 33), aI K 8 (Ta_alarmTurn (Pa_tally v))), ((q 34), aI K 8 (Ta_alarmLeaderSteps (Pa_tally v))), ((q 35), aI K 8 (Ta_alarmTrailerSteps (Pa_tally v))), ((g 0), ob 3 [.ref (g 1), .ref (g 2), .ref (g 3), .ref (g 4), .ref (g 5), .ref (g 6), .ref (g 7), .ref (g 8), .int (Pg_nameCount pr), .int (Pg_size pr), .int (Pg_lines pr)]), ((g 1), aI K 64 (Pg_code pr)), ((g 2), aI K 64 (Pg_first pr)), ((g 3), aI K 64 (Pg_second pr)), ((g 4), aI K 64 (Pg_third pr)), ((g 5), aI K 8 (Pg_rules pr)), ((g 6), aI K 32 (Pg_data pr)), ((g 7), aI K 140 (Pg_names pr)), ((g 8), aI K 140 (Pg_namedPlaces pr))]) (wc := [((q 0), ob 2 [.ref (q 1), .ref (q 2), .ref (q 7), .ref (q 12), .ref (q 17), .ref (q 25), .ref (q 31), .ref (g 0), .int (Pa_done v), .int (Pa_down v)]), ((q 1), aI K 8 (Pa_rules v)), ((q 2), ob 6 [.ref (q 3), .ref (q 4), .ref (q 5), .ref (q 6), .int (St_place (Pa_leader v)), .int (St_steps (Pa_leader v))]), ((q 3), aI K 8 (St_registers (Pa_leader v))), ((q 4), aI K 4 (St_floats (Pa_leader v))), ((q 5), aI K 8 (St_stuckMask (Pa_leader v))), ((q 6), aI K 8 (St_stuckOnes (Pa_leader v))), ((q 7), ob 6 [.ref (q 8), .ref (q 9), .ref (q 10), .ref (q 11), .int (St_place (Pa_trailer v)), .int (St_steps (Pa_trailer v))]), ((q 8), aI K 8 (St_registers (Pa_trailer v))), ((q 9), aI K 4 (St_floats (Pa_trailer v))), ((q 10), aI K 8 (St_stuckMask (Pa_trailer v))), ((q 11), aI K 8 (St_stuckOnes (Pa_trailer v))), ((q 12), ob 6 [.ref (q 13), .ref (q 14), .ref (q 15), .ref (q 16), .int (St_place (Pa_point v)), .int (St_steps (Pa_point v))]), ((q 13), aI K 8 (St_registers (Pa_point v))), ((q 14), aI K 4 (St_floats (Pa_point v))), ((q 15), aI K 8 (St_stuckMask (Pa_point v))), ((q 16), aI K 8 (St_stuckOnes (Pa_point v))), ((q 17), ob 4 [.ref (q 18), .ref (q 19), .ref (q 20), .ref (q 21), .ref (q 22), .ref (q 23), .ref (q 24), .int (Qu_firstLoad (Pa_queues v)), .int (Qu_loads (Pa_queues v)), .int (Qu_firstBranch (Pa_queues v)), .int (Qu_branches (Pa_queues v)), .int (Qu_held (Pa_queues v)), .int (Qu_comparedHeld (Pa_queues v))]), ((q 18), aI K 8 (Qu_loadAddress (Pa_queues v))), ((q 19), aI K 8 (Qu_loadWord (Pa_queues v))), ((q 20), aI K 8 (Qu_branch (Pa_queues v))), ((q 21), aI K 8 (Qu_heldAddress (Pa_queues v))), ((q 22), aI K 8 (Qu_heldWord (Pa_queues v))), ((q 23), aI K 8 (Qu_besideAddress (Pa_queues v))), ((q 24), aI K 8 (Qu_besideWord (Pa_queues v))), ((q 25), ob 1 [.ref (q 26), .ref (q 27), .ref (q 28), .ref (q 29), .ref (q 30), .int (Ou_stores (Pa_outside v)), .int (Ou_outputs (Pa_outside v))]), ((q 26), aI K 32 (Ou_memory (Pa_outside v))), ((q 27), aI K 40 (Ou_output (Pa_outside v))), ((q 28), aI K 16 (Ou_leftAddress (Pa_outside v))), ((q 29), aI K 16 (Ou_leftWord (Pa_outside v))), ((q 30), aI K 16 (Ou_leftPoint (Pa_outside v))), ((q 31), ob 7 [.ref (q 32), .ref (q 33), .ref (q 34), .ref (q 35), .int (Ta_turns (Pa_tally v)), .int (Ta_points (Pa_tally v)), .int (Ta_alarms (Pa_tally v)), .int (Ta_alarmsSincePoint (Pa_tally v)), .int (Ta_greatestAhead (Pa_tally v)), .int (Ta_aheadSum (Pa_tally v)), .int (Ta_leaderTurns (Pa_tally v)), .int (Ta_trailerTurns (Pa_tally v)), .int (Ta_comparedSteps (Pa_tally v))]), ((q 32), aI K 8 (Ta_alarmSort (Pa_tally v))), ((q 33), aI K 8 (Ta_alarmTurn (Pa_tally v))), ((q 34), aI K 8 (Ta_alarmLeaderSteps (Pa_tally v))), ((q 35), aI K 8 (Ta_alarmTrailerSteps (Pa_tally v)))]) (nn := 36) cx [] [] (m_Pa_ahead l D K q (g 0) v hc5) rfl yv_X3_ahead wd_722 ⟨rfl, rfl⟩ (by decide) (fr_s (j := 0) rfl rfl rfl (fr_s (j := 1) rfl rfl rfl (fr_s (j := 2) rfl rfl rfl (fr_s (j := 3) rfl rfl rfl (fr_s (j := 4) rfl rfl rfl (fr_s (j := 5) rfl rfl rfl (fr_s (j := 6) rfl rfl rfl (fr_s (j := 7) rfl rfl rfl (fr_s (j := 8) rfl rfl rfl (fr_s (j := 9) rfl rfl rfl (fr_s (j := 10) rfl rfl rfl (fr_s (j := 11) rfl rfl rfl (fr_s (j := 12) rfl rfl rfl (fr_s (j := 13) rfl rfl rfl (fr_s (j := 14) rfl rfl rfl (fr_s (j := 15) rfl rfl rfl (fr_s (j := 16) rfl rfl rfl (fr_s (j := 17) rfl rfl rfl (fr_s (j := 18) rfl rfl rfl (fr_s (j := 19) rfl rfl rfl (fr_s (j := 20) rfl rfl rfl (fr_s (j := 21) rfl rfl rfl (fr_s (j := 22) rfl rfl rfl (fr_s (j := 23) rfl rfl rfl (fr_s (j := 24) rfl rfl rfl (fr_s (j := 25) rfl rfl rfl (fr_s (j := 26) rfl rfl rfl (fr_s (j := 27) rfl rfl rfl (fr_s (j := 28) rfl rfl rfl (fr_s (j := 29) rfl rfl rfl (fr_s (j := 30) rfl rfl rfl (fr_s (j := 31) rfl rfl rfl (fr_s (j := 32) rfl rfl rfl (fr_s (j := 33) rfl rfl rfl (fr_s (j := 34) rfl rfl rfl (fr_s (j := 35) rfl rfl rfl (fr_k (fr_k (fr_k (fr_k (fr_k (fr_k (fr_k (fr_k (fr_k (fr_n)))))))))))))))))))))))))))))))))))))))))))))) rfl (by decide) 0 rfl rfl rfl (Nat.le_of_ble_eq_true rfl) dX3_whyLeaderWaits_44 ?_
      refine r_aload_n (pc := 47) cx dX3_whyLeaderWaits_47 1 rfl ?_
      refine r_get (pc := 48) cx cf_X3 0 0 rfl (by decide) rfl wd_510 dX3_whyLeaderWaits_48 ?_
      refine r_iconst (pc := 51) cx dX3_whyLeaderWaits_51 ic_2 ?_
      refine r_iald (pc := 52) cx 1 rfl (by decide) dX3_whyLeaderWaits_52 ?_
      refine r_icmp_lt (pc := 53) (tgt := 58) cx dX3_whyLeaderWaits_53 (by decide) (fun h6 => ?_) (fun h6 => ?_)
      · replace hf := ifp h6 hf
        refine r_iload_n (pc := 58) cx dX3_whyLeaderWaits_58 0 rfl ?_
        refine r_bipush (pc := 59) cx dX3_whyLeaderWaits_59 bp_6 ?_
        refine r_icmp_ne (pc := 61) (tgt := 80) cx dX3_whyLeaderWaits_61 (by decide) (fun h7 => ?_) (fun h7 => ?_)
        · replace hf := ifn h7 hf
          refine r_iload_n (pc := 80) cx dX3_whyLeaderWaits_80 0 rfl ?_
          refine r_bipush (pc := 81) cx dX3_whyLeaderWaits_81 bp_15 ?_
          refine r_icmp_lt (pc := 83) (tgt := 102) cx dX3_whyLeaderWaits_83 (by decide) (fun h8 => ?_) (fun h8 => ?_)
          · replace hf := ifp h8 hf
            refine r_iload_n (pc := 102) cx dX3_whyLeaderWaits_102 0 rfl ?_
            refine r_bipush (pc := 103) cx dX3_whyLeaderWaits_103 bp_7 ?_
            refine r_icmp_eq (pc := 105) (tgt := 114) cx dX3_whyLeaderWaits_105 (by decide) (fun h9 => ?_) (fun h9 => ?_)
            · replace hf := ifp h9 hf
              refine r_aload_n (pc := 114) cx dX3_whyLeaderWaits_114 1 rfl ?_
              refine r_get (pc := 115) cx cf_X3 0 4 rfl (by decide) rfl wd_518 dX3_whyLeaderWaits_115 ?_
              refine r_get (pc := 118) cx cf_X5 17 11 rfl (by decide) rfl wd_361 dX3_whyLeaderWaits_118 ?_
              refine r_aload_n (pc := 121) cx dX3_whyLeaderWaits_121 1 rfl ?_
              refine r_get (pc := 122) cx cf_X3 0 0 rfl (by decide) rfl wd_510 dX3_whyLeaderWaits_122 ?_
              refine r_iconst (pc := 125) cx dX3_whyLeaderWaits_125 ic_5 ?_
              refine r_iald (pc := 126) cx 1 rfl (by decide) dX3_whyLeaderWaits_126 ?_
              refine r_icmp_lt (pc := 127) (tgt := 134) cx dX3_whyLeaderWaits_127 (by decide) (fun h10 => ?_) (fun h10 => ?_)
              · replace hf := ifp h10 hf
                refine r_iconst (pc := 134) cx dX3_whyLeaderWaits_134 ic_0 ?_
                refine r_istore_n (pc := 135) (loc' := [(2, .int (0 : Int32)), (1, .int x2), (0, .ref (q 0))]) cx dX3_whyLeaderWaits_135 rfl (by decide) rfl ?_
                refine r_iload_n (pc := 136) cx dX3_whyLeaderWaits_136 0 rfl ?_
                refine r_if_eq (pc := 137) (tgt := 144) cx dX3_whyLeaderWaits_137 (by decide) (fun h11 => ?_) (fun h11 => ?_)
                · replace hf := ifp h11 hf
                  refine r_iconst (pc := 144) cx dX3_whyLeaderWaits_144 ic_0 ?_
                  have hi := inj1 hf
                  exact r_iret (pc := 145) cx hi rfl dX3_whyLeaderWaits_145
                · replace hf := ifn h11 hf
                  refine r_iconst (pc := 140) cx dX3_whyLeaderWaits_140 ic_4 ?_
                  refine r_goto (pc := 141) (tgt := 145) cx dX3_whyLeaderWaits_141 (by decide) ?_
                  have hi := inj1 hf
                  exact r_iret (pc := 145) cx hi rfl dX3_whyLeaderWaits_145
              · replace hf := ifn h10 hf
                refine r_iconst (pc := 130) cx dX3_whyLeaderWaits_130 ic_1 ?_
                refine r_goto (pc := 131) (tgt := 135) cx dX3_whyLeaderWaits_131 (by decide) ?_
                refine r_istore_n (pc := 135) (loc' := [(2, .int (1 : Int32)), (1, .int x2), (0, .ref (q 0))]) cx dX3_whyLeaderWaits_135 rfl (by decide) rfl ?_
                refine r_iload_n (pc := 136) cx dX3_whyLeaderWaits_136 0 rfl ?_
                refine r_if_eq (pc := 137) (tgt := 144) cx dX3_whyLeaderWaits_137 (by decide) (fun h12 => ?_) (fun h12 => ?_)
                · replace hf := ifp h12 hf
                  refine r_iconst (pc := 144) cx dX3_whyLeaderWaits_144 ic_0 ?_
                  have hi := inj1 hf
                  exact r_iret (pc := 145) cx hi rfl dX3_whyLeaderWaits_145
                · replace hf := ifn h12 hf
                  refine r_iconst (pc := 140) cx dX3_whyLeaderWaits_140 ic_4 ?_
                  refine r_goto (pc := 141) (tgt := 145) cx dX3_whyLeaderWaits_141 (by decide) ?_
                  have hi := inj1 hf
                  exact r_iret (pc := 145) cx hi rfl dX3_whyLeaderWaits_145
            · replace hf := ifn h9 hf
              refine r_iload_n (pc := 108) cx dX3_whyLeaderWaits_108 0 rfl ?_
              refine r_bipush (pc := 109) cx dX3_whyLeaderWaits_109 bp_8 ?_
              refine r_icmp_ne (pc := 111) (tgt := 134) cx dX3_whyLeaderWaits_111 (by decide) (fun h13 => ?_) (fun h13 => ?_)
              · replace hf := ifn h13 hf
                refine r_iconst (pc := 134) cx dX3_whyLeaderWaits_134 ic_0 ?_
                refine r_istore_n (pc := 135) (loc' := [(2, .int (0 : Int32)), (1, .int x2), (0, .ref (q 0))]) cx dX3_whyLeaderWaits_135 rfl (by decide) rfl ?_
                refine r_iload_n (pc := 136) cx dX3_whyLeaderWaits_136 0 rfl ?_
                refine r_if_eq (pc := 137) (tgt := 144) cx dX3_whyLeaderWaits_137 (by decide) (fun h14 => ?_) (fun h14 => ?_)
                · replace hf := ifp h14 hf
                  refine r_iconst (pc := 144) cx dX3_whyLeaderWaits_144 ic_0 ?_
                  have hi := inj1 hf
                  exact r_iret (pc := 145) cx hi rfl dX3_whyLeaderWaits_145
                · replace hf := ifn h14 hf
                  refine r_iconst (pc := 140) cx dX3_whyLeaderWaits_140 ic_4 ?_
                  refine r_goto (pc := 141) (tgt := 145) cx dX3_whyLeaderWaits_141 (by decide) ?_
                  have hi := inj1 hf
                  exact r_iret (pc := 145) cx hi rfl dX3_whyLeaderWaits_145
              · replace hf := ifp h13 hf
                refine r_aload_n (pc := 114) cx dX3_whyLeaderWaits_114 1 rfl ?_
                refine r_get (pc := 115) cx cf_X3 0 4 rfl (by decide) rfl wd_518 dX3_whyLeaderWaits_115 ?_
                refine r_get (pc := 118) cx cf_X5 17 11 rfl (by decide) rfl wd_361 dX3_whyLeaderWaits_118 ?_
                refine r_aload_n (pc := 121) cx dX3_whyLeaderWaits_121 1 rfl ?_
                refine r_get (pc := 122) cx cf_X3 0 0 rfl (by decide) rfl wd_510 dX3_whyLeaderWaits_122 ?_
                refine r_iconst (pc := 125) cx dX3_whyLeaderWaits_125 ic_5 ?_
                refine r_iald (pc := 126) cx 1 rfl (by decide) dX3_whyLeaderWaits_126 ?_
                refine r_icmp_lt (pc := 127) (tgt := 134) cx dX3_whyLeaderWaits_127 (by decide) (fun h15 => ?_) (fun h15 => ?_)
                · replace hf := ifp h15 hf
                  refine r_iconst (pc := 134) cx dX3_whyLeaderWaits_134 ic_0 ?_
                  refine r_istore_n (pc := 135) (loc' := [(2, .int (0 : Int32)), (1, .int x2), (0, .ref (q 0))]) cx dX3_whyLeaderWaits_135 rfl (by decide) rfl ?_
                  refine r_iload_n (pc := 136) cx dX3_whyLeaderWaits_136 0 rfl ?_
                  refine r_if_eq (pc := 137) (tgt := 144) cx dX3_whyLeaderWaits_137 (by decide) (fun h16 => ?_) (fun h16 => ?_)
                  · replace hf := ifp h16 hf
                    refine r_iconst (pc := 144) cx dX3_whyLeaderWaits_144 ic_0 ?_
                    have hi := inj1 hf
                    exact r_iret (pc := 145) cx hi rfl dX3_whyLeaderWaits_145
                  · replace hf := ifn h16 hf
                    refine r_iconst (pc := 140) cx dX3_whyLeaderWaits_140 ic_4 ?_
                    refine r_goto (pc := 141) (tgt := 145) cx dX3_whyLeaderWaits_141 (by decide) ?_
                    have hi := inj1 hf
                    exact r_iret (pc := 145) cx hi rfl dX3_whyLeaderWaits_145
                · replace hf := ifn h15 hf
                  refine r_iconst (pc := 130) cx dX3_whyLeaderWaits_130 ic_1 ?_
                  refine r_goto (pc := 131) (tgt := 135) cx dX3_whyLeaderWaits_131 (by decide) ?_
                  refine r_istore_n (pc := 135) (loc' := [(2, .int (1 : Int32)), (1, .int x2), (0, .ref (q 0))]) cx dX3_whyLeaderWaits_135 rfl (by decide) rfl ?_
                  refine r_iload_n (pc := 136) cx dX3_whyLeaderWaits_136 0 rfl ?_
                  refine r_if_eq (pc := 137) (tgt := 144) cx dX3_whyLeaderWaits_137 (by decide) (fun h17 => ?_) (fun h17 => ?_)
                  · replace hf := ifp h17 hf
                    refine r_iconst (pc := 144) cx dX3_whyLeaderWaits_144 ic_0 ?_
                    have hi := inj1 hf
                    exact r_iret (pc := 145) cx hi rfl dX3_whyLeaderWaits_145
                  · replace hf := ifn h17 hf
                    refine r_iconst (pc := 140) cx dX3_whyLeaderWaits_140 ic_4 ?_
                    refine r_goto (pc := 141) (tgt := 145) cx dX3_whyLeaderWaits_141 (by decide) ?_
                    have hi := inj1 hf
                    exact r_iret (pc := 145) cx hi rfl dX3_whyLeaderWaits_145
          · replace hf := ifn h8 hf
            refine r_aload_n (pc := 86) cx dX3_whyLeaderWaits_86 1 rfl ?_
            refine r_get (pc := 87) cx cf_X3 0 4 rfl (by decide) rfl wd_518 dX3_whyLeaderWaits_87 ?_
            refine r_get (pc := 90) cx cf_X5 17 10 rfl (by decide) rfl wd_358 dX3_whyLeaderWaits_90 ?_
            refine r_aload_n (pc := 93) cx dX3_whyLeaderWaits_93 1 rfl ?_
            refine r_get (pc := 94) cx cf_X3 0 0 rfl (by decide) rfl wd_510 dX3_whyLeaderWaits_94 ?_
            refine r_iconst (pc := 97) cx dX3_whyLeaderWaits_97 ic_4 ?_
            refine r_iald (pc := 98) cx 1 rfl (by decide) dX3_whyLeaderWaits_98 ?_
            refine r_icmp_ge (pc := 99) (tgt := 130) cx dX3_whyLeaderWaits_99 (by decide) (fun h18 => ?_) (fun h18 => ?_)
            · replace hf := ifp h18 hf
              refine r_iconst (pc := 130) cx dX3_whyLeaderWaits_130 ic_1 ?_
              refine r_goto (pc := 131) (tgt := 135) cx dX3_whyLeaderWaits_131 (by decide) ?_
              refine r_istore_n (pc := 135) (loc' := [(2, .int (1 : Int32)), (1, .int x2), (0, .ref (q 0))]) cx dX3_whyLeaderWaits_135 rfl (by decide) rfl ?_
              refine r_iload_n (pc := 136) cx dX3_whyLeaderWaits_136 0 rfl ?_
              refine r_if_eq (pc := 137) (tgt := 144) cx dX3_whyLeaderWaits_137 (by decide) (fun h19 => ?_) (fun h19 => ?_)
              · replace hf := ifp h19 hf
                refine r_iconst (pc := 144) cx dX3_whyLeaderWaits_144 ic_0 ?_
                have hi := inj1 hf
                exact r_iret (pc := 145) cx hi rfl dX3_whyLeaderWaits_145
              · replace hf := ifn h19 hf
                refine r_iconst (pc := 140) cx dX3_whyLeaderWaits_140 ic_4 ?_
                refine r_goto (pc := 141) (tgt := 145) cx dX3_whyLeaderWaits_141 (by decide) ?_
                have hi := inj1 hf
                exact r_iret (pc := 145) cx hi rfl dX3_whyLeaderWaits_145
            · replace hf := ifn h18 hf
              refine r_iload_n (pc := 102) cx dX3_whyLeaderWaits_102 0 rfl ?_
              refine r_bipush (pc := 103) cx dX3_whyLeaderWaits_103 bp_7 ?_
              refine r_icmp_eq (pc := 105) (tgt := 114) cx dX3_whyLeaderWaits_105 (by decide) (fun h20 => ?_) (fun h20 => ?_)
              · replace hf := ifp h20 hf
                refine r_aload_n (pc := 114) cx dX3_whyLeaderWaits_114 1 rfl ?_
                refine r_get (pc := 115) cx cf_X3 0 4 rfl (by decide) rfl wd_518 dX3_whyLeaderWaits_115 ?_
                refine r_get (pc := 118) cx cf_X5 17 11 rfl (by decide) rfl wd_361 dX3_whyLeaderWaits_118 ?_
                refine r_aload_n (pc := 121) cx dX3_whyLeaderWaits_121 1 rfl ?_
                refine r_get (pc := 122) cx cf_X3 0 0 rfl (by decide) rfl wd_510 dX3_whyLeaderWaits_122 ?_
                refine r_iconst (pc := 125) cx dX3_whyLeaderWaits_125 ic_5 ?_
                refine r_iald (pc := 126) cx 1 rfl (by decide) dX3_whyLeaderWaits_126 ?_
                refine r_icmp_lt (pc := 127) (tgt := 134) cx dX3_whyLeaderWaits_127 (by decide) (fun h21 => ?_) (fun h21 => ?_)
                · replace hf := ifp h21 hf
                  refine r_iconst (pc := 134) cx dX3_whyLeaderWaits_134 ic_0 ?_
                  refine r_istore_n (pc := 135) (loc' := [(2, .int (0 : Int32)), (1, .int x2), (0, .ref (q 0))]) cx dX3_whyLeaderWaits_135 rfl (by decide) rfl ?_
                  refine r_iload_n (pc := 136) cx dX3_whyLeaderWaits_136 0 rfl ?_
                  refine r_if_eq (pc := 137) (tgt := 144) cx dX3_whyLeaderWaits_137 (by decide) (fun h22 => ?_) (fun h22 => ?_)
                  · replace hf := ifp h22 hf
                    refine r_iconst (pc := 144) cx dX3_whyLeaderWaits_144 ic_0 ?_
                    have hi := inj1 hf
                    exact r_iret (pc := 145) cx hi rfl dX3_whyLeaderWaits_145
                  · replace hf := ifn h22 hf
                    refine r_iconst (pc := 140) cx dX3_whyLeaderWaits_140 ic_4 ?_
                    refine r_goto (pc := 141) (tgt := 145) cx dX3_whyLeaderWaits_141 (by decide) ?_
                    have hi := inj1 hf
                    exact r_iret (pc := 145) cx hi rfl dX3_whyLeaderWaits_145
                · replace hf := ifn h21 hf
                  refine r_iconst (pc := 130) cx dX3_whyLeaderWaits_130 ic_1 ?_
                  refine r_goto (pc := 131) (tgt := 135) cx dX3_whyLeaderWaits_131 (by decide) ?_
                  refine r_istore_n (pc := 135) (loc' := [(2, .int (1 : Int32)), (1, .int x2), (0, .ref (q 0))]) cx dX3_whyLeaderWaits_135 rfl (by decide) rfl ?_
                  refine r_iload_n (pc := 136) cx dX3_whyLeaderWaits_136 0 rfl ?_
                  refine r_if_eq (pc := 137) (tgt := 144) cx dX3_whyLeaderWaits_137 (by decide) (fun h23 => ?_) (fun h23 => ?_)
                  · replace hf := ifp h23 hf
                    refine r_iconst (pc := 144) cx dX3_whyLeaderWaits_144 ic_0 ?_
                    have hi := inj1 hf
                    exact r_iret (pc := 145) cx hi rfl dX3_whyLeaderWaits_145
                  · replace hf := ifn h23 hf
                    refine r_iconst (pc := 140) cx dX3_whyLeaderWaits_140 ic_4 ?_
                    refine r_goto (pc := 141) (tgt := 145) cx dX3_whyLeaderWaits_141 (by decide) ?_
                    have hi := inj1 hf
                    exact r_iret (pc := 145) cx hi rfl dX3_whyLeaderWaits_145
              · replace hf := ifn h20 hf
                refine r_iload_n (pc := 108) cx dX3_whyLeaderWaits_108 0 rfl ?_
                refine r_bipush (pc := 109) cx dX3_whyLeaderWaits_109 bp_8 ?_
                refine r_icmp_ne (pc := 111) (tgt := 134) cx dX3_whyLeaderWaits_111 (by decide) (fun h24 => ?_) (fun h24 => ?_)
                · replace hf := ifn h24 hf
                  refine r_iconst (pc := 134) cx dX3_whyLeaderWaits_134 ic_0 ?_
                  refine r_istore_n (pc := 135) (loc' := [(2, .int (0 : Int32)), (1, .int x2), (0, .ref (q 0))]) cx dX3_whyLeaderWaits_135 rfl (by decide) rfl ?_
                  refine r_iload_n (pc := 136) cx dX3_whyLeaderWaits_136 0 rfl ?_
                  refine r_if_eq (pc := 137) (tgt := 144) cx dX3_whyLeaderWaits_137 (by decide) (fun h25 => ?_) (fun h25 => ?_)
                  · replace hf := ifp h25 hf
                    refine r_iconst (pc := 144) cx dX3_whyLeaderWaits_144 ic_0 ?_
                    have hi := inj1 hf
                    exact r_iret (pc := 145) cx hi rfl dX3_whyLeaderWaits_145
                  · replace hf := ifn h25 hf
                    refine r_iconst (pc := 140) cx dX3_whyLeaderWaits_140 ic_4 ?_
                    refine r_goto (pc := 141) (tgt := 145) cx dX3_whyLeaderWaits_141 (by decide) ?_
                    have hi := inj1 hf
                    exact r_iret (pc := 145) cx hi rfl dX3_whyLeaderWaits_145
                · replace hf := ifp h24 hf
                  refine r_aload_n (pc := 114) cx dX3_whyLeaderWaits_114 1 rfl ?_
                  refine r_get (pc := 115) cx cf_X3 0 4 rfl (by decide) rfl wd_518 dX3_whyLeaderWaits_115 ?_
                  refine r_get (pc := 118) cx cf_X5 17 11 rfl (by decide) rfl wd_361 dX3_whyLeaderWaits_118 ?_
                  refine r_aload_n (pc := 121) cx dX3_whyLeaderWaits_121 1 rfl ?_
                  refine r_get (pc := 122) cx cf_X3 0 0 rfl (by decide) rfl wd_510 dX3_whyLeaderWaits_122 ?_
                  refine r_iconst (pc := 125) cx dX3_whyLeaderWaits_125 ic_5 ?_
                  refine r_iald (pc := 126) cx 1 rfl (by decide) dX3_whyLeaderWaits_126 ?_
                  refine r_icmp_lt (pc := 127) (tgt := 134) cx dX3_whyLeaderWaits_127 (by decide) (fun h26 => ?_) (fun h26 => ?_)
                  · replace hf := ifp h26 hf
                    refine r_iconst (pc := 134) cx dX3_whyLeaderWaits_134 ic_0 ?_
                    refine r_istore_n (pc := 135) (loc' := [(2, .int (0 : Int32)), (1, .int x2), (0, .ref (q 0))]) cx dX3_whyLeaderWaits_135 rfl (by decide) rfl ?_
                    refine r_iload_n (pc := 136) cx dX3_whyLeaderWaits_136 0 rfl ?_
                    refine r_if_eq (pc := 137) (tgt := 144) cx dX3_whyLeaderWaits_137 (by decide) (fun h27 => ?_) (fun h27 => ?_)
                    · replace hf := ifp h27 hf
                      refine r_iconst (pc := 144) cx dX3_whyLeaderWaits_144 ic_0 ?_
                      have hi := inj1 hf
                      exact r_iret (pc := 145) cx hi rfl dX3_whyLeaderWaits_145
                    · replace hf := ifn h27 hf
                      refine r_iconst (pc := 140) cx dX3_whyLeaderWaits_140 ic_4 ?_
                      refine r_goto (pc := 141) (tgt := 145) cx dX3_whyLeaderWaits_141 (by decide) ?_
                      have hi := inj1 hf
                      exact r_iret (pc := 145) cx hi rfl dX3_whyLeaderWaits_145
                  · replace hf := ifn h26 hf
                    refine r_iconst (pc := 130) cx dX3_whyLeaderWaits_130 ic_1 ?_
                    refine r_goto (pc := 131) (tgt := 135) cx dX3_whyLeaderWaits_131 (by decide) ?_
                    refine r_istore_n (pc := 135) (loc' := [(2, .int (1 : Int32)), (1, .int x2), (0, .ref (q 0))]) cx dX3_whyLeaderWaits_135 rfl (by decide) rfl ?_
                    refine r_iload_n (pc := 136) cx dX3_whyLeaderWaits_136 0 rfl ?_
                    refine r_if_eq (pc := 137) (tgt := 144) cx dX3_whyLeaderWaits_137 (by decide) (fun h28 => ?_) (fun h28 => ?_)
                    · replace hf := ifp h28 hf
                      refine r_iconst (pc := 144) cx dX3_whyLeaderWaits_144 ic_0 ?_
                      have hi := inj1 hf
                      exact r_iret (pc := 145) cx hi rfl dX3_whyLeaderWaits_145
                    · replace hf := ifn h28 hf
                      refine r_iconst (pc := 140) cx dX3_whyLeaderWaits_140 ic_4 ?_
                      refine r_goto (pc := 141) (tgt := 145) cx dX3_whyLeaderWaits_141 (by decide) ?_
                      have hi := inj1 hf
                      exact r_iret (pc := 145) cx hi rfl dX3_whyLeaderWaits_145
        · replace hf := ifp h7 hf
          refine r_aload_n (pc := 64) cx dX3_whyLeaderWaits_64 1 rfl ?_
          refine r_get (pc := 65) cx cf_X3 0 4 rfl (by decide) rfl wd_518 dX3_whyLeaderWaits_65 ?_
          refine r_get (pc := 68) cx cf_X5 17 8 rfl (by decide) rfl wd_354 dX3_whyLeaderWaits_68 ?_
          refine r_aload_n (pc := 71) cx dX3_whyLeaderWaits_71 1 rfl ?_
          refine r_get (pc := 72) cx cf_X3 0 0 rfl (by decide) rfl wd_510 dX3_whyLeaderWaits_72 ?_
          refine r_iconst (pc := 75) cx dX3_whyLeaderWaits_75 ic_3 ?_
          refine r_iald (pc := 76) cx 1 rfl (by decide) dX3_whyLeaderWaits_76 ?_
          refine r_icmp_ge (pc := 77) (tgt := 130) cx dX3_whyLeaderWaits_77 (by decide) (fun h29 => ?_) (fun h29 => ?_)
          · replace hf := ifp h29 hf
            refine r_iconst (pc := 130) cx dX3_whyLeaderWaits_130 ic_1 ?_
            refine r_goto (pc := 131) (tgt := 135) cx dX3_whyLeaderWaits_131 (by decide) ?_
            refine r_istore_n (pc := 135) (loc' := [(2, .int (1 : Int32)), (1, .int x2), (0, .ref (q 0))]) cx dX3_whyLeaderWaits_135 rfl (by decide) rfl ?_
            refine r_iload_n (pc := 136) cx dX3_whyLeaderWaits_136 0 rfl ?_
            refine r_if_eq (pc := 137) (tgt := 144) cx dX3_whyLeaderWaits_137 (by decide) (fun h30 => ?_) (fun h30 => ?_)
            · replace hf := ifp h30 hf
              refine r_iconst (pc := 144) cx dX3_whyLeaderWaits_144 ic_0 ?_
              have hi := inj1 hf
              exact r_iret (pc := 145) cx hi rfl dX3_whyLeaderWaits_145
            · replace hf := ifn h30 hf
              refine r_iconst (pc := 140) cx dX3_whyLeaderWaits_140 ic_4 ?_
              refine r_goto (pc := 141) (tgt := 145) cx dX3_whyLeaderWaits_141 (by decide) ?_
              have hi := inj1 hf
              exact r_iret (pc := 145) cx hi rfl dX3_whyLeaderWaits_145
          · replace hf := ifn h29 hf
            refine r_iload_n (pc := 80) cx dX3_whyLeaderWaits_80 0 rfl ?_
            refine r_bipush (pc := 81) cx dX3_whyLeaderWaits_81 bp_15 ?_
            refine r_icmp_lt (pc := 83) (tgt := 102) cx dX3_whyLeaderWaits_83 (by decide) (fun h31 => ?_) (fun h31 => ?_)
            · replace hf := ifp h31 hf
              refine r_iload_n (pc := 102) cx dX3_whyLeaderWaits_102 0 rfl ?_
              refine r_bipush (pc := 103) cx dX3_whyLeaderWaits_103 bp_7 ?_
              refine r_icmp_eq (pc := 105) (tgt := 114) cx dX3_whyLeaderWaits_105 (by decide) (fun h32 => ?_) (fun h32 => ?_)
              · replace hf := ifp h32 hf
                refine r_aload_n (pc := 114) cx dX3_whyLeaderWaits_114 1 rfl ?_
                refine r_get (pc := 115) cx cf_X3 0 4 rfl (by decide) rfl wd_518 dX3_whyLeaderWaits_115 ?_
                refine r_get (pc := 118) cx cf_X5 17 11 rfl (by decide) rfl wd_361 dX3_whyLeaderWaits_118 ?_
                refine r_aload_n (pc := 121) cx dX3_whyLeaderWaits_121 1 rfl ?_
                refine r_get (pc := 122) cx cf_X3 0 0 rfl (by decide) rfl wd_510 dX3_whyLeaderWaits_122 ?_
                refine r_iconst (pc := 125) cx dX3_whyLeaderWaits_125 ic_5 ?_
                refine r_iald (pc := 126) cx 1 rfl (by decide) dX3_whyLeaderWaits_126 ?_
                refine r_icmp_lt (pc := 127) (tgt := 134) cx dX3_whyLeaderWaits_127 (by decide) (fun h33 => ?_) (fun h33 => ?_)
                · replace hf := ifp h33 hf
                  refine r_iconst (pc := 134) cx dX3_whyLeaderWaits_134 ic_0 ?_
                  refine r_istore_n (pc := 135) (loc' := [(2, .int (0 : Int32)), (1, .int x2), (0, .ref (q 0))]) cx dX3_whyLeaderWaits_135 rfl (by decide) rfl ?_
                  refine r_iload_n (pc := 136) cx dX3_whyLeaderWaits_136 0 rfl ?_
                  refine r_if_eq (pc := 137) (tgt := 144) cx dX3_whyLeaderWaits_137 (by decide) (fun h34 => ?_) (fun h34 => ?_)
                  · replace hf := ifp h34 hf
                    refine r_iconst (pc := 144) cx dX3_whyLeaderWaits_144 ic_0 ?_
                    have hi := inj1 hf
                    exact r_iret (pc := 145) cx hi rfl dX3_whyLeaderWaits_145
                  · replace hf := ifn h34 hf
                    refine r_iconst (pc := 140) cx dX3_whyLeaderWaits_140 ic_4 ?_
                    refine r_goto (pc := 141) (tgt := 145) cx dX3_whyLeaderWaits_141 (by decide) ?_
                    have hi := inj1 hf
                    exact r_iret (pc := 145) cx hi rfl dX3_whyLeaderWaits_145
                · replace hf := ifn h33 hf
                  refine r_iconst (pc := 130) cx dX3_whyLeaderWaits_130 ic_1 ?_
                  refine r_goto (pc := 131) (tgt := 135) cx dX3_whyLeaderWaits_131 (by decide) ?_
                  refine r_istore_n (pc := 135) (loc' := [(2, .int (1 : Int32)), (1, .int x2), (0, .ref (q 0))]) cx dX3_whyLeaderWaits_135 rfl (by decide) rfl ?_
                  refine r_iload_n (pc := 136) cx dX3_whyLeaderWaits_136 0 rfl ?_
                  refine r_if_eq (pc := 137) (tgt := 144) cx dX3_whyLeaderWaits_137 (by decide) (fun h35 => ?_) (fun h35 => ?_)
                  · replace hf := ifp h35 hf
                    refine r_iconst (pc := 144) cx dX3_whyLeaderWaits_144 ic_0 ?_
                    have hi := inj1 hf
                    exact r_iret (pc := 145) cx hi rfl dX3_whyLeaderWaits_145
                  · replace hf := ifn h35 hf
                    refine r_iconst (pc := 140) cx dX3_whyLeaderWaits_140 ic_4 ?_
                    refine r_goto (pc := 141) (tgt := 145) cx dX3_whyLeaderWaits_141 (by decide) ?_
                    have hi := inj1 hf
                    exact r_iret (pc := 145) cx hi rfl dX3_whyLeaderWaits_145
              · replace hf := ifn h32 hf
                refine r_iload_n (pc := 108) cx dX3_whyLeaderWaits_108 0 rfl ?_
                refine r_bipush (pc := 109) cx dX3_whyLeaderWaits_109 bp_8 ?_
                refine r_icmp_ne (pc := 111) (tgt := 134) cx dX3_whyLeaderWaits_111 (by decide) (fun h36 => ?_) (fun h36 => ?_)
                · replace hf := ifn h36 hf
                  refine r_iconst (pc := 134) cx dX3_whyLeaderWaits_134 ic_0 ?_
                  refine r_istore_n (pc := 135) (loc' := [(2, .int (0 : Int32)), (1, .int x2), (0, .ref (q 0))]) cx dX3_whyLeaderWaits_135 rfl (by decide) rfl ?_
                  refine r_iload_n (pc := 136) cx dX3_whyLeaderWaits_136 0 rfl ?_
                  refine r_if_eq (pc := 137) (tgt := 144) cx dX3_whyLeaderWaits_137 (by decide) (fun h37 => ?_) (fun h37 => ?_)
                  · replace hf := ifp h37 hf
                    refine r_iconst (pc := 144) cx dX3_whyLeaderWaits_144 ic_0 ?_
                    have hi := inj1 hf
                    exact r_iret (pc := 145) cx hi rfl dX3_whyLeaderWaits_145
                  · replace hf := ifn h37 hf
                    refine r_iconst (pc := 140) cx dX3_whyLeaderWaits_140 ic_4 ?_
                    refine r_goto (pc := 141) (tgt := 145) cx dX3_whyLeaderWaits_141 (by decide) ?_
                    have hi := inj1 hf
                    exact r_iret (pc := 145) cx hi rfl dX3_whyLeaderWaits_145
                · replace hf := ifp h36 hf
                  refine r_aload_n (pc := 114) cx dX3_whyLeaderWaits_114 1 rfl ?_
                  refine r_get (pc := 115) cx cf_X3 0 4 rfl (by decide) rfl wd_518 dX3_whyLeaderWaits_115 ?_
                  refine r_get (pc := 118) cx cf_X5 17 11 rfl (by decide) rfl wd_361 dX3_whyLeaderWaits_118 ?_
                  refine r_aload_n (pc := 121) cx dX3_whyLeaderWaits_121 1 rfl ?_
                  refine r_get (pc := 122) cx cf_X3 0 0 rfl (by decide) rfl wd_510 dX3_whyLeaderWaits_122 ?_
                  refine r_iconst (pc := 125) cx dX3_whyLeaderWaits_125 ic_5 ?_
                  refine r_iald (pc := 126) cx 1 rfl (by decide) dX3_whyLeaderWaits_126 ?_
                  refine r_icmp_lt (pc := 127) (tgt := 134) cx dX3_whyLeaderWaits_127 (by decide) (fun h38 => ?_) (fun h38 => ?_)
                  · replace hf := ifp h38 hf
                    refine r_iconst (pc := 134) cx dX3_whyLeaderWaits_134 ic_0 ?_
                    refine r_istore_n (pc := 135) (loc' := [(2, .int (0 : Int32)), (1, .int x2), (0, .ref (q 0))]) cx dX3_whyLeaderWaits_135 rfl (by decide) rfl ?_
                    refine r_iload_n (pc := 136) cx dX3_whyLeaderWaits_136 0 rfl ?_
                    refine r_if_eq (pc := 137) (tgt := 144) cx dX3_whyLeaderWaits_137 (by decide) (fun h39 => ?_) (fun h39 => ?_)
                    · replace hf := ifp h39 hf
                      refine r_iconst (pc := 144) cx dX3_whyLeaderWaits_144 ic_0 ?_
                      have hi := inj1 hf
                      exact r_iret (pc := 145) cx hi rfl dX3_whyLeaderWaits_145
                    · replace hf := ifn h39 hf
                      refine r_iconst (pc := 140) cx dX3_whyLeaderWaits_140 ic_4 ?_
                      refine r_goto (pc := 141) (tgt := 145) cx dX3_whyLeaderWaits_141 (by decide) ?_
                      have hi := inj1 hf
                      exact r_iret (pc := 145) cx hi rfl dX3_whyLeaderWaits_145
                  · replace hf := ifn h38 hf
                    refine r_iconst (pc := 130) cx dX3_whyLeaderWaits_130 ic_1 ?_
                    refine r_goto (pc := 131) (tgt := 135) cx dX3_whyLeaderWaits_131 (by decide) ?_
                    refine r_istore_n (pc := 135) (loc' := [(2, .int (1 : Int32)), (1, .int x2), (0, .ref (q 0))]) cx dX3_whyLeaderWaits_135 rfl (by decide) rfl ?_
                    refine r_iload_n (pc := 136) cx dX3_whyLeaderWaits_136 0 rfl ?_
                    refine r_if_eq (pc := 137) (tgt := 144) cx dX3_whyLeaderWaits_137 (by decide) (fun h40 => ?_) (fun h40 => ?_)
                    · replace hf := ifp h40 hf
                      refine r_iconst (pc := 144) cx dX3_whyLeaderWaits_144 ic_0 ?_
                      have hi := inj1 hf
                      exact r_iret (pc := 145) cx hi rfl dX3_whyLeaderWaits_145
                    · replace hf := ifn h40 hf
                      refine r_iconst (pc := 140) cx dX3_whyLeaderWaits_140 ic_4 ?_
                      refine r_goto (pc := 141) (tgt := 145) cx dX3_whyLeaderWaits_141 (by decide) ?_
                      have hi := inj1 hf
                      exact r_iret (pc := 145) cx hi rfl dX3_whyLeaderWaits_145
            · replace hf := ifn h31 hf
              refine r_aload_n (pc := 86) cx dX3_whyLeaderWaits_86 1 rfl ?_
              refine r_get (pc := 87) cx cf_X3 0 4 rfl (by decide) rfl wd_518 dX3_whyLeaderWaits_87 ?_
              refine r_get (pc := 90) cx cf_X5 17 10 rfl (by decide) rfl wd_358 dX3_whyLeaderWaits_90 ?_
              refine r_aload_n (pc := 93) cx dX3_whyLeaderWaits_93 1 rfl ?_
              refine r_get (pc := 94) cx cf_X3 0 0 rfl (by decide) rfl wd_510 dX3_whyLeaderWaits_94 ?_
              refine r_iconst (pc := 97) cx dX3_whyLeaderWaits_97 ic_4 ?_
              refine r_iald (pc := 98) cx 1 rfl (by decide) dX3_whyLeaderWaits_98 ?_
              refine r_icmp_ge (pc := 99) (tgt := 130) cx dX3_whyLeaderWaits_99 (by decide) (fun h41 => ?_) (fun h41 => ?_)
              · replace hf := ifp h41 hf
                refine r_iconst (pc := 130) cx dX3_whyLeaderWaits_130 ic_1 ?_
                refine r_goto (pc := 131) (tgt := 135) cx dX3_whyLeaderWaits_131 (by decide) ?_
                refine r_istore_n (pc := 135) (loc' := [(2, .int (1 : Int32)), (1, .int x2), (0, .ref (q 0))]) cx dX3_whyLeaderWaits_135 rfl (by decide) rfl ?_
                refine r_iload_n (pc := 136) cx dX3_whyLeaderWaits_136 0 rfl ?_
                refine r_if_eq (pc := 137) (tgt := 144) cx dX3_whyLeaderWaits_137 (by decide) (fun h42 => ?_) (fun h42 => ?_)
                · replace hf := ifp h42 hf
                  refine r_iconst (pc := 144) cx dX3_whyLeaderWaits_144 ic_0 ?_
                  have hi := inj1 hf
                  exact r_iret (pc := 145) cx hi rfl dX3_whyLeaderWaits_145
                · replace hf := ifn h42 hf
                  refine r_iconst (pc := 140) cx dX3_whyLeaderWaits_140 ic_4 ?_
                  refine r_goto (pc := 141) (tgt := 145) cx dX3_whyLeaderWaits_141 (by decide) ?_
                  have hi := inj1 hf
                  exact r_iret (pc := 145) cx hi rfl dX3_whyLeaderWaits_145
              · replace hf := ifn h41 hf
                refine r_iload_n (pc := 102) cx dX3_whyLeaderWaits_102 0 rfl ?_
                refine r_bipush (pc := 103) cx dX3_whyLeaderWaits_103 bp_7 ?_
                refine r_icmp_eq (pc := 105) (tgt := 114) cx dX3_whyLeaderWaits_105 (by decide) (fun h43 => ?_) (fun h43 => ?_)
                · replace hf := ifp h43 hf
                  refine r_aload_n (pc := 114) cx dX3_whyLeaderWaits_114 1 rfl ?_
                  refine r_get (pc := 115) cx cf_X3 0 4 rfl (by decide) rfl wd_518 dX3_whyLeaderWaits_115 ?_
                  refine r_get (pc := 118) cx cf_X5 17 11 rfl (by decide) rfl wd_361 dX3_whyLeaderWaits_118 ?_
                  refine r_aload_n (pc := 121) cx dX3_whyLeaderWaits_121 1 rfl ?_
                  refine r_get (pc := 122) cx cf_X3 0 0 rfl (by decide) rfl wd_510 dX3_whyLeaderWaits_122 ?_
                  refine r_iconst (pc := 125) cx dX3_whyLeaderWaits_125 ic_5 ?_
                  refine r_iald (pc := 126) cx 1 rfl (by decide) dX3_whyLeaderWaits_126 ?_
                  refine r_icmp_lt (pc := 127) (tgt := 134) cx dX3_whyLeaderWaits_127 (by decide) (fun h44 => ?_) (fun h44 => ?_)
                  · replace hf := ifp h44 hf
                    refine r_iconst (pc := 134) cx dX3_whyLeaderWaits_134 ic_0 ?_
                    refine r_istore_n (pc := 135) (loc' := [(2, .int (0 : Int32)), (1, .int x2), (0, .ref (q 0))]) cx dX3_whyLeaderWaits_135 rfl (by decide) rfl ?_
                    refine r_iload_n (pc := 136) cx dX3_whyLeaderWaits_136 0 rfl ?_
                    refine r_if_eq (pc := 137) (tgt := 144) cx dX3_whyLeaderWaits_137 (by decide) (fun h45 => ?_) (fun h45 => ?_)
                    · replace hf := ifp h45 hf
                      refine r_iconst (pc := 144) cx dX3_whyLeaderWaits_144 ic_0 ?_
                      have hi := inj1 hf
                      exact r_iret (pc := 145) cx hi rfl dX3_whyLeaderWaits_145
                    · replace hf := ifn h45 hf
                      refine r_iconst (pc := 140) cx dX3_whyLeaderWaits_140 ic_4 ?_
                      refine r_goto (pc := 141) (tgt := 145) cx dX3_whyLeaderWaits_141 (by decide) ?_
                      have hi := inj1 hf
                      exact r_iret (pc := 145) cx hi rfl dX3_whyLeaderWaits_145
                  · replace hf := ifn h44 hf
                    refine r_iconst (pc := 130) cx dX3_whyLeaderWaits_130 ic_1 ?_
                    refine r_goto (pc := 131) (tgt := 135) cx dX3_whyLeaderWaits_131 (by decide) ?_
                    refine r_istore_n (pc := 135) (loc' := [(2, .int (1 : Int32)), (1, .int x2), (0, .ref (q 0))]) cx dX3_whyLeaderWaits_135 rfl (by decide) rfl ?_
                    refine r_iload_n (pc := 136) cx dX3_whyLeaderWaits_136 0 rfl ?_
                    refine r_if_eq (pc := 137) (tgt := 144) cx dX3_whyLeaderWaits_137 (by decide) (fun h46 => ?_) (fun h46 => ?_)
                    · replace hf := ifp h46 hf
                      refine r_iconst (pc := 144) cx dX3_whyLeaderWaits_144 ic_0 ?_
                      have hi := inj1 hf
                      exact r_iret (pc := 145) cx hi rfl dX3_whyLeaderWaits_145
                    · replace hf := ifn h46 hf
                      refine r_iconst (pc := 140) cx dX3_whyLeaderWaits_140 ic_4 ?_
                      refine r_goto (pc := 141) (tgt := 145) cx dX3_whyLeaderWaits_141 (by decide) ?_
                      have hi := inj1 hf
                      exact r_iret (pc := 145) cx hi rfl dX3_whyLeaderWaits_145
                · replace hf := ifn h43 hf
                  refine r_iload_n (pc := 108) cx dX3_whyLeaderWaits_108 0 rfl ?_
                  refine r_bipush (pc := 109) cx dX3_whyLeaderWaits_109 bp_8 ?_
                  refine r_icmp_ne (pc := 111) (tgt := 134) cx dX3_whyLeaderWaits_111 (by decide) (fun h47 => ?_) (fun h47 => ?_)
                  · replace hf := ifn h47 hf
                    refine r_iconst (pc := 134) cx dX3_whyLeaderWaits_134 ic_0 ?_
                    refine r_istore_n (pc := 135) (loc' := [(2, .int (0 : Int32)), (1, .int x2), (0, .ref (q 0))]) cx dX3_whyLeaderWaits_135 rfl (by decide) rfl ?_
                    refine r_iload_n (pc := 136) cx dX3_whyLeaderWaits_136 0 rfl ?_
                    refine r_if_eq (pc := 137) (tgt := 144) cx dX3_whyLeaderWaits_137 (by decide) (fun h48 => ?_) (fun h48 => ?_)
                    · replace hf := ifp h48 hf
                      refine r_iconst (pc := 144) cx dX3_whyLeaderWaits_144 ic_0 ?_
                      have hi := inj1 hf
                      exact r_iret (pc := 145) cx hi rfl dX3_whyLeaderWaits_145
                    · replace hf := ifn h48 hf
                      refine r_iconst (pc := 140) cx dX3_whyLeaderWaits_140 ic_4 ?_
                      refine r_goto (pc := 141) (tgt := 145) cx dX3_whyLeaderWaits_141 (by decide) ?_
                      have hi := inj1 hf
                      exact r_iret (pc := 145) cx hi rfl dX3_whyLeaderWaits_145
                  · replace hf := ifp h47 hf
                    refine r_aload_n (pc := 114) cx dX3_whyLeaderWaits_114 1 rfl ?_
                    refine r_get (pc := 115) cx cf_X3 0 4 rfl (by decide) rfl wd_518 dX3_whyLeaderWaits_115 ?_
                    refine r_get (pc := 118) cx cf_X5 17 11 rfl (by decide) rfl wd_361 dX3_whyLeaderWaits_118 ?_
                    refine r_aload_n (pc := 121) cx dX3_whyLeaderWaits_121 1 rfl ?_
                    refine r_get (pc := 122) cx cf_X3 0 0 rfl (by decide) rfl wd_510 dX3_whyLeaderWaits_122 ?_
                    refine r_iconst (pc := 125) cx dX3_whyLeaderWaits_125 ic_5 ?_
                    refine r_iald (pc := 126) cx 1 rfl (by decide) dX3_whyLeaderWaits_126 ?_
                    refine r_icmp_lt (pc := 127) (tgt := 134) cx dX3_whyLeaderWaits_127 (by decide) (fun h49 => ?_) (fun h49 => ?_)
                    · replace hf := ifp h49 hf
                      refine r_iconst (pc := 134) cx dX3_whyLeaderWaits_134 ic_0 ?_
                      refine r_istore_n (pc := 135) (loc' := [(2, .int (0 : Int32)), (1, .int x2), (0, .ref (q 0))]) cx dX3_whyLeaderWaits_135 rfl (by decide) rfl ?_
                      refine r_iload_n (pc := 136) cx dX3_whyLeaderWaits_136 0 rfl ?_
                      refine r_if_eq (pc := 137) (tgt := 144) cx dX3_whyLeaderWaits_137 (by decide) (fun h50 => ?_) (fun h50 => ?_)
                      · replace hf := ifp h50 hf
                        refine r_iconst (pc := 144) cx dX3_whyLeaderWaits_144 ic_0 ?_
                        have hi := inj1 hf
                        exact r_iret (pc := 145) cx hi rfl dX3_whyLeaderWaits_145
                      · replace hf := ifn h50 hf
                        refine r_iconst (pc := 140) cx dX3_whyLeaderWaits_140 ic_4 ?_
                        refine r_goto (pc := 141) (tgt := 145) cx dX3_whyLeaderWaits_141 (by decide) ?_
                        have hi := inj1 hf
                        exact r_iret (pc := 145) cx hi rfl dX3_whyLeaderWaits_145
                    · replace hf := ifn h49 hf
                      refine r_iconst (pc := 130) cx dX3_whyLeaderWaits_130 ic_1 ?_
                      refine r_goto (pc := 131) (tgt := 135) cx dX3_whyLeaderWaits_131 (by decide) ?_
                      refine r_istore_n (pc := 135) (loc' := [(2, .int (1 : Int32)), (1, .int x2), (0, .ref (q 0))]) cx dX3_whyLeaderWaits_135 rfl (by decide) rfl ?_
                      refine r_iload_n (pc := 136) cx dX3_whyLeaderWaits_136 0 rfl ?_
                      refine r_if_eq (pc := 137) (tgt := 144) cx dX3_whyLeaderWaits_137 (by decide) (fun h51 => ?_) (fun h51 => ?_)
                      · replace hf := ifp h51 hf
                        refine r_iconst (pc := 144) cx dX3_whyLeaderWaits_144 ic_0 ?_
                        have hi := inj1 hf
                        exact r_iret (pc := 145) cx hi rfl dX3_whyLeaderWaits_145
                      · replace hf := ifn h51 hf
                        refine r_iconst (pc := 140) cx dX3_whyLeaderWaits_140 ic_4 ?_
                        refine r_goto (pc := 141) (tgt := 145) cx dX3_whyLeaderWaits_141 (by decide) ?_
                        have hi := inj1 hf
                        exact r_iret (pc := 145) cx hi rfl dX3_whyLeaderWaits_145
      · replace hf := ifn h6 hf
        refine r_iconst (pc := 56) cx dX3_whyLeaderWaits_56 ic_3 ?_
        have hi := inj1 hf
        exact r_iret (pc := 57) cx hi rfl dX3_whyLeaderWaits_57
    · replace hf := ifp h3 hf
      refine r_iconst (pc := 41) cx dX3_whyLeaderWaits_41 ic_2 ?_
      have hi := inj1 hf
      exact r_iret (pc := 42) cx hi rfl dX3_whyLeaderWaits_42
  · replace hf := ifn h1 hf
    refine r_iconst (pc := 16) cx dX3_whyLeaderWaits_16 ic_1 ?_
    have hi := inj1 hf
    exact r_iret (pc := 17) cx hi rfl dX3_whyLeaderWaits_17
theorem yv_X3_whyLeaderWaits : YV yX3_whyLeaderWaits cX3_whyLeaderWaits 3 (some .int) 0 := ⟨⟨by decide +kernel, by decide +kernel, by decide +kernel⟩, wd_729, wd_95, wd_727, wd_728⟩
abbrev rm_Pa_whyTrailerWaits : Room := { frames := 2, cells := 0, slots := 0, locals := 42 }
set_option maxRecDepth 100000 in
set_option maxHeartbeats 4000000 in
theorem m_Pa_whyTrailerWaits (l : Launch) (D : va_G) (K : Nat → ClassId) (q : Nat → Nat) (v : T_Pa) (g : Nat → Nat) (pr : T_Pg) {r_ : Int32} (hf : f_Pa_whyTrailerWaits v pr = some r_) : MI l yX3_whyTrailerWaits cX3_whyTrailerWaits 3 (some .int) rm_Pa_whyTrailerWaits D K [.ref (q 0)] (cl_Pa K q (g 0) v ++ (cl_Pg K g pr)) r_ (cl_Pa K q (g 0) v ++ (cl_Pg K g pr)) := by
  refine MI_of (loc0 := [(0, .ref (q 0))]) (by decide +kernel) rfl (Nat.le_of_ble_eq_true rfl) ?_
  intro p e s m args below meth c A cx
  unfold f_Pa_whyTrailerWaits at hf
  refine r_ws (ws' := [((q 0), ob 2 [.ref (q 1), .ref (q 2), .ref (q 7), .ref (q 12), .ref (q 17), .ref (q 25), .ref (q 31), .ref (g 0), .int (Pa_done v), .int (Pa_down v)]), ((q 1), aI K 8 (Pa_rules v)), ((q 2), ob 6 [.ref (q 3), .ref (q 4), .ref (q 5), .ref (q 6), .int (St_place (Pa_leader v)), .int (St_steps (Pa_leader v))]), ((q 3), aI K 8 (St_registers (Pa_leader v))), ((q 4), aI K 4 (St_floats (Pa_leader v))), ((q 5), aI K 8 (St_stuckMask (Pa_leader v))), ((q 6), aI K 8 (St_stuckOnes (Pa_leader v))), ((q 7), ob 6 [.ref (q 8), .ref (q 9), .ref (q 10), .ref (q 11), .int (St_place (Pa_trailer v)), .int (St_steps (Pa_trailer v))]), ((q 8), aI K 8 (St_registers (Pa_trailer v))), ((q 9), aI K 4 (St_floats (Pa_trailer v))), ((q 10), aI K 8 (St_stuckMask (Pa_trailer v))), ((q 11), aI K 8 (St_stuckOnes (Pa_trailer v))), ((q 12), ob 6 [.ref (q 13), .ref (q 14), .ref (q 15), .ref (q 16), .int (St_place (Pa_point v)), .int (St_steps (Pa_point v))]), ((q 13), aI K 8 (St_registers (Pa_point v))), ((q 14), aI K 4 (St_floats (Pa_point v))), ((q 15), aI K 8 (St_stuckMask (Pa_point v))), ((q 16), aI K 8 (St_stuckOnes (Pa_point v))), ((q 17), ob 4 [.ref (q 18), .ref (q 19), .ref (q 20), .ref (q 21), .ref (q 22), .ref (q 23), .ref (q 24), .int (Qu_firstLoad (Pa_queues v)), .int (Qu_loads (Pa_queues v)), .int (Qu_firstBranch (Pa_queues v)), .int (Qu_branches (Pa_queues v)), .int (Qu_held (Pa_queues v)), .int (Qu_comparedHeld (Pa_queues v))]), ((q 18), aI K 8 (Qu_loadAddress (Pa_queues v))), ((q 19), aI K 8 (Qu_loadWord (Pa_queues v))), ((q 20), aI K 8 (Qu_branch (Pa_queues v))), ((q 21), aI K 8 (Qu_heldAddress (Pa_queues v))), ((q 22), aI K 8 (Qu_heldWord (Pa_queues v))), ((q 23), aI K 8 (Qu_besideAddress (Pa_queues v))), ((q 24), aI K 8 (Qu_besideWord (Pa_queues v))), ((q 25), ob 1 [.ref (q 26), .ref (q 27), .ref (q 28), .ref (q 29), .ref (q 30), .int (Ou_stores (Pa_outside v)), .int (Ou_outputs (Pa_outside v))]), ((q 26), aI K 32 (Ou_memory (Pa_outside v))), ((q 27), aI K 40 (Ou_output (Pa_outside v))), ((q 28), aI K 16 (Ou_leftAddress (Pa_outside v))), ((q 29), aI K 16 (Ou_leftWord (Pa_outside v))), ((q 30), aI K 16 (Ou_leftPoint (Pa_outside v))), ((q 31), ob 7 [.ref (q 32), .ref (q 33), .ref (q 34), .ref (q 35), .int (Ta_turns (Pa_tally v)), .int (Ta_points (Pa_tally v)), .int (Ta_alarms (Pa_tally v)), .int (Ta_alarmsSincePoint (Pa_tally v)), .int (Ta_greatestAhead (Pa_tally v)), .int (Ta_aheadSum (Pa_tally v)), .int (Ta_leaderTurns (Pa_tally v)), .int (Ta_trailerTurns (Pa_tally v)), .int (Ta_comparedSteps (Pa_tally v))]), ((q 32), aI K 8 (Ta_alarmSort (Pa_tally v))), ((q 33), aI K 8 (Ta_alarmTurn (Pa_tally v))), ((q 34), aI K 8 (Ta_alarmLeaderSteps (Pa_tally v))), ((q 35), aI K 8 (Ta_alarmTrailerSteps (Pa_tally v))), ((g 0), ob 3 [.ref (g 1), .ref (g 2), .ref (g 3), .ref (g 4), .ref (g 5), .ref (g 6), .ref (g 7), .ref (g 8), .int (Pg_nameCount pr), .int (Pg_size pr), .int (Pg_lines pr)]), ((g 1), aI K 64 (Pg_code pr)), ((g 2), aI K 64 (Pg_first pr)), ((g 3), aI K 64 (Pg_second pr)), ((g 4), aI K 64 (Pg_third pr)), ((g 5), aI K 8 (Pg_rules pr)), ((g 6), aI K 32 (Pg_data pr)), ((g 7), aI K 140 (Pg_names pr)), ((g 8), aI K 140 (Pg_namedPlaces pr))]) rfl ?_
  refine r_aload_n (pc := 0) cx dX3_whyTrailerWaits_0 0 rfl ?_
  refine r_get (pc := 1) cx cf_X3 0 2 rfl (by decide) rfl wd_514 dX3_whyTrailerWaits_1 ?_
  refine r_get (pc := 4) cx cf_X7 7 5 rfl (by decide) rfl wd_322 dX3_whyTrailerWaits_4 ?_
  refine r_aload_n (pc := 7) cx dX3_whyTrailerWaits_7 0 rfl ?_
  refine r_get (pc := 8) cx cf_X3 0 0 rfl (by decide) rfl wd_510 dX3_whyTrailerWaits_8 ?_
  refine r_iconst (pc := 11) cx dX3_whyTrailerWaits_11 ic_0 ?_
  refine r_iald (pc := 12) cx 1 rfl (by decide) dX3_whyTrailerWaits_12 ?_
  refine r_icmp_lt (pc := 13) (tgt := 18) cx dX3_whyTrailerWaits_13 (by decide) (fun h1 => ?_) (fun h1 => ?_)
  · replace hf := ifp h1 hf
    refine r_aload_n (pc := 18) cx dX3_whyTrailerWaits_18 0 rfl ?_
    refine r_get (pc := 19) cx cf_X3 0 7 rfl (by decide) rfl wd_524 dX3_whyTrailerWaits_19 ?_
    refine r_get (pc := 22) cx cf_X4 36 0 rfl (by decide) rfl wd_135 dX3_whyTrailerWaits_22 ?_
    refine r_aload_n (pc := 25) cx dX3_whyTrailerWaits_25 0 rfl ?_
    refine r_get (pc := 26) cx cf_X3 0 2 rfl (by decide) rfl wd_514 dX3_whyTrailerWaits_26 ?_
    refine r_get (pc := 29) cx cf_X7 7 4 rfl (by decide) rfl wd_319 dX3_whyTrailerWaits_29 ?_
    refine r_bipush (pc := 32) cx dX3_whyTrailerWaits_32 bp_63 ?_
    refine r_iand (pc := 34) cx dX3_whyTrailerWaits_34 ?_
    refine r_iald (pc := 35) cx 37 rfl (ix_and63 _) dX3_whyTrailerWaits_35 ?_
    replace hf := nm_of hf
    obtain ⟨x2, ex2, hf⟩ := hf
    refine r_nm ex2 ?_
    refine r_istore_n (pc := 36) (loc' := [(1, .int x2), (0, .ref (q 0))]) cx dX3_whyTrailerWaits_36 rfl (by decide) rfl ?_
    refine r_iload_n (pc := 37) cx dX3_whyTrailerWaits_37 0 rfl ?_
    refine r_if_ne (pc := 38) (tgt := 43) cx dX3_whyTrailerWaits_38 (by decide) (fun h3 => ?_) (fun h3 => ?_)
    · replace hf := ifn h3 hf
      refine r_aload_n (pc := 43) cx dX3_whyTrailerWaits_43 1 rfl ?_
      replace hf := bd_of hf
      obtain ⟨r4, hc5, hf⟩ := hf
      refine r_Vi (pc := 44) (ws' := [((q 0), ob 2 [.ref (q 1), .ref (q 2), .ref (q 7), .ref (q 12), .ref (q 17), .ref (q 25), .ref (q 31), .ref (g 0), .int (Pa_done v), .int (Pa_down v)]), ((q 1), aI K 8 (Pa_rules v)), ((q 2), ob 6 [.ref (q 3), .ref (q 4), .ref (q 5), .ref (q 6), .int (St_place (Pa_leader v)), .int (St_steps (Pa_leader v))]), ((q 3), aI K 8 (St_registers (Pa_leader v))), ((q 4), aI K 4 (St_floats (Pa_leader v))), ((q 5), aI K 8 (St_stuckMask (Pa_leader v))), ((q 6), aI K 8 (St_stuckOnes (Pa_leader v))), ((q 7), ob 6 [.ref (q 8), .ref (q 9), .ref (q 10), .ref (q 11), .int (St_place (Pa_trailer v)), .int (St_steps (Pa_trailer v))]), ((q 8), aI K 8 (St_registers (Pa_trailer v))), ((q 9), aI K 4 (St_floats (Pa_trailer v))), ((q 10), aI K 8 (St_stuckMask (Pa_trailer v))), ((q 11), aI K 8 (St_stuckOnes (Pa_trailer v))), ((q 12), ob 6 [.ref (q 13), .ref (q 14), .ref (q 15), .ref (q 16), .int (St_place (Pa_point v)), .int (St_steps (Pa_point v))]), ((q 13), aI K 8 (St_registers (Pa_point v))), ((q 14), aI K 4 (St_floats (Pa_point v))), ((q 15), aI K 8 (St_stuckMask (Pa_point v))), ((q 16), aI K 8 (St_stuckOnes (Pa_point v))), ((q 17), ob 4 [.ref (q 18), .ref (q 19), .ref (q 20), .ref (q 21), .ref (q 22), .ref (q 23), .ref (q 24), .int (Qu_firstLoad (Pa_queues v)), .int (Qu_loads (Pa_queues v)), .int (Qu_firstBranch (Pa_queues v)), .int (Qu_branches (Pa_queues v)), .int (Qu_held (Pa_queues v)), .int (Qu_comparedHeld (Pa_queues v))]), ((q 18), aI K 8 (Qu_loadAddress (Pa_queues v))), ((q 19), aI K 8 (Qu_loadWord (Pa_queues v))), ((q 20), aI K 8 (Qu_branch (Pa_queues v))), ((q 21), aI K 8 (Qu_heldAddress (Pa_queues v))), ((q 22), aI K 8 (Qu_heldWord (Pa_queues v))), ((q 23), aI K 8 (Qu_besideAddress (Pa_queues v))), ((q 24), aI K 8 (Qu_besideWord (Pa_queues v))), ((q 25), ob 1 [.ref (q 26), .ref (q 27), .ref (q 28), .ref (q 29), .ref (q 30), .int (Ou_stores (Pa_outside v)), .int (Ou_outputs (Pa_outside v))]), ((q 26), aI K 32 (Ou_memory (Pa_outside v))), ((q 27), aI K 40 (Ou_output (Pa_outside v))), ((q 28), aI K 16 (Ou_leftAddress (Pa_outside v))), ((q 29), aI K 16 (Ou_leftWord (Pa_outside v))), ((q 30), aI K 16 (Ou_leftPoint (Pa_outside v))), ((q 31), ob 7 [.ref (q 32), .ref (q 33), .ref (q 34), .ref (q 35), .int (Ta_turns (Pa_tally v)), .int (Ta_points (Pa_tally v)), .int (Ta_alarms (Pa_tally v)), .int (Ta_alarmsSincePoint (Pa_tally v)), .int (Ta_greatestAhead (Pa_tally v)), .int (Ta_aheadSum (Pa_tally v)), .int (Ta_leaderTurns (Pa_tally v)), .int (Ta_trailerTurns (Pa_tally v)), .int (Ta_comparedSteps (Pa_tally v))]), ((q 32), aI K 8 (Ta_alarmSort (Pa_tally v))), ((q 33), aI K 8 (Ta_alarmTurn (Pa_tally v))), ((q 34), aI K 8 (Ta_alarmLeaderSteps (Pa_tally v))), ((q 35), aI K 8 (Ta_alarmTrailerSteps (Pa_tally v))), ((g 0), ob 3 [.ref (g 1), .ref (g 2), .ref (g 3), .ref (g 4), .ref (g 5), .ref (g 6), .ref (g 7), .ref (g 8), .int (Pg_nameCount pr), .int (Pg_size pr), .int (Pg_lines pr)]), ((g 1), aI K 64 (Pg_code pr)), ((g 2), aI K 64 (Pg_first pr)), ((g 3), aI K 64 (Pg_second pr)), ((g 4), aI K 64 (Pg_third pr)), ((g 5), aI K 8 (Pg_rules pr)), ((g 6), aI K 32 (Pg_data pr)), ((g 7), aI K 140 (Pg_names pr)), ((g 8), aI K 140 (Pg_namedPlaces pr))]) (wc := [((q 0), ob 2 [.ref (q 1), .ref (q 2), .ref (q 7), .ref (q 12), .ref (q 17), .ref (q 25), .ref (q 31), .ref (g 0), .int (Pa_done v), .int (Pa_down v)]), ((q 1), aI K 8 (Pa_rules v)), ((q 2), ob 6 [.ref (q 3), .ref (q 4), .ref (q 5), .ref (q 6), .int (St_place (Pa_leader v)), .int (St_steps (Pa_leader v))]), ((q 3), aI K 8 (St_registers (Pa_leader v))), ((q 4), aI K 4 (St_floats (Pa_leader v))), ((q 5), aI K 8 (St_stuckMask (Pa_leader v))), ((q 6), aI K 8 (St_stuckOnes (Pa_leader v))), ((q 7), ob 6 [.ref (q 8), .ref (q 9), .ref (q 10), .ref (q 11), .int (St_place (Pa_trailer v)), .int (St_steps (Pa_trailer v))]), ((q 8), aI K 8 (St_registers (Pa_trailer v))), ((q 9), aI K 4 (St_floats (Pa_trailer v))), ((q 10), aI K 8 (St_stuckMask (Pa_trailer v))), ((q 11), aI K 8 (St_stuckOnes (Pa_trailer v))), ((q 12), ob 6 [.ref (q 13), .ref (q 14), .ref (q 15), .ref (q 16), .int (St_place (Pa_point v)), .int (St_steps (Pa_point v))]), ((q 13), aI K 8 (St_registers (Pa_point v))), ((q 14), aI K 4 (St_floats (Pa_point v))), ((q 15), aI K 8 (St_stuckMask (Pa_point v))), ((q 16), aI K 8 (St_stuckOnes (Pa_point v))), ((q 17), ob 4 [.ref (q 18), .ref (q 19), .ref (q 20), .ref (q 21), .ref (q 22), .ref (q 23), .ref (q 24), .int (Qu_firstLoad (Pa_queues v)), .int (Qu_loads (Pa_queues v)), .int (Qu_firstBranch (Pa_queues v)), .int (Qu_branches (Pa_queues v)), .int (Qu_held (Pa_queues v)), .int (Qu_comparedHeld (Pa_queues v))]), ((q 18), aI K 8 (Qu_loadAddress (Pa_queues v))), ((q 19), aI K 8 (Qu_loadWord (Pa_queues v))), ((q 20), aI K 8 (Qu_branch (Pa_queues v))), ((q 21), aI K 8 (Qu_heldAddress (Pa_queues v))), ((q 22), aI K 8 (Qu_heldWord (Pa_queues v))), ((q 23), aI K 8 (Qu_besideAddress (Pa_queues v))), ((q 24), aI K 8 (Qu_besideWord (Pa_queues v))), ((q 25), ob 1 [.ref (q 26), .ref (q 27), .ref (q 28), .ref (q 29), .ref (q 30), .int (Ou_stores (Pa_outside v)), .int (Ou_outputs (Pa_outside v))]), ((q 26), aI K 32 (Ou_memory (Pa_outside v))), ((q 27), aI K 40 (Ou_output (Pa_outside v))), ((q 28), aI K 16 (Ou_leftAddress (Pa_outside v))), ((q 29), aI K 16 (Ou_leftWord (Pa_outside v))), ((q 30), aI K 16 (Ou_leftPoint (Pa_outside v))), ((q 31), ob 7 [.ref (q 32), .ref (q 33), .ref (q 34), .ref (q 35), .int (Ta_turns (Pa_tally v)), .int (Ta_points (Pa_tally v)), .int (Ta_alarms (Pa_tally v)), .int (Ta_alarmsSincePoint (Pa_tally v)), .int (Ta_greatestAhead (Pa_tally v)), .int (Ta_aheadSum (Pa_tally v)), .int (Ta_leaderTurns (Pa_tally v)), .int (Ta_trailerTurns (Pa_tally v)), .int (Ta_comparedSteps (Pa_tally v))]), ((q 32), aI K 8 (Ta_alarmSort (Pa_tally v))), ((q 33), aI K 8 (Ta_alarmTurn (Pa_tally v))), ((q 34), aI K 8 (Ta_alarmLeaderSteps (Pa_tally v))), ((q 35), aI K 8 (Ta_alarmTrailerSteps (Pa_tally v)))]) (nn := 36) cx [] [] (m_Pa_ahead l D K q (g 0) v hc5) rfl yv_X3_ahead wd_722 ⟨rfl, rfl⟩ (by decide) (fr_s (j := 0) rfl rfl rfl (fr_s (j := 1) rfl rfl rfl (fr_s (j := 2) rfl rfl rfl (fr_s (j := 3) rfl rfl rfl (fr_s (j := 4) rfl rfl rfl (fr_s (j := 5) rfl rfl rfl (fr_s (j := 6) rfl rfl rfl (fr_s (j := 7) rfl rfl rfl (fr_s (j := 8) rfl rfl rfl (fr_s (j := 9) rfl rfl rfl (fr_s (j := 10) rfl rfl rfl (fr_s (j := 11) rfl rfl rfl (fr_s (j := 12) rfl rfl rfl (fr_s (j := 13) rfl rfl rfl (fr_s (j := 14) rfl rfl rfl (fr_s (j := 15) rfl rfl rfl (fr_s (j := 16) rfl rfl rfl (fr_s (j := 17) rfl rfl rfl (fr_s (j := 18) rfl rfl rfl (fr_s (j := 19) rfl rfl rfl (fr_s (j := 20) rfl rfl rfl (fr_s (j := 21) rfl rfl rfl (fr_s (j := 22) rfl rfl rfl (fr_s (j := 23) rfl rfl rfl (fr_s (j := 24) rfl rfl rfl (fr_s (j := 25) rfl rfl rfl (fr_s (j := 26) rfl rfl rfl (fr_s (j := 27) rfl rfl rfl (fr_s (j := 28) rfl rfl rfl (fr_s (j := 29) rfl rfl rfl (fr_s (j := 30) rfl rfl rfl (fr_s (j := 31) rfl rfl rfl (fr_s (j := 32) rfl rfl rfl (fr_s (j := 33) rfl rfl rfl (fr_s (j := 34) rfl rfl rfl (fr_s (j := 35) rfl rfl rfl (fr_k (fr_k (fr_k (fr_k (fr_k (fr_k (fr_k (fr_k (fr_k (fr_n)))))))))))))))))))))))))))))))))))))))))))))) rfl (by decide) 0 rfl rfl rfl (Nat.le_of_ble_eq_true rfl) dX3_whyTrailerWaits_44 ?_
      refine r_iconst (pc := 47) cx dX3_whyTrailerWaits_47 ic_1 ?_
      refine r_icmp_lt (pc := 48) (tgt := 71) cx dX3_whyTrailerWaits_48 (by decide) (fun h6 => ?_) (fun h6 => ?_)
      · replace hf := ifp h6 hf
        refine r_iconst (pc := 71) cx dX3_whyTrailerWaits_71 ic_3 ?_
        have hi := inj1 hf
        exact r_iret (pc := 72) cx hi rfl dX3_whyTrailerWaits_72
      · replace hf := ifn h6 hf
        refine r_aload_n (pc := 51) cx dX3_whyTrailerWaits_51 1 rfl ?_
        replace hf := bd_of hf
        obtain ⟨r7, hc8, hf⟩ := hf
        refine r_Vi (pc := 52) (ws' := [((q 0), ob 2 [.ref (q 1), .ref (q 2), .ref (q 7), .ref (q 12), .ref (q 17), .ref (q 25), .ref (q 31), .ref (g 0), .int (Pa_done v), .int (Pa_down v)]), ((q 1), aI K 8 (Pa_rules v)), ((q 2), ob 6 [.ref (q 3), .ref (q 4), .ref (q 5), .ref (q 6), .int (St_place (Pa_leader v)), .int (St_steps (Pa_leader v))]), ((q 3), aI K 8 (St_registers (Pa_leader v))), ((q 4), aI K 4 (St_floats (Pa_leader v))), ((q 5), aI K 8 (St_stuckMask (Pa_leader v))), ((q 6), aI K 8 (St_stuckOnes (Pa_leader v))), ((q 7), ob 6 [.ref (q 8), .ref (q 9), .ref (q 10), .ref (q 11), .int (St_place (Pa_trailer v)), .int (St_steps (Pa_trailer v))]), ((q 8), aI K 8 (St_registers (Pa_trailer v))), ((q 9), aI K 4 (St_floats (Pa_trailer v))), ((q 10), aI K 8 (St_stuckMask (Pa_trailer v))), ((q 11), aI K 8 (St_stuckOnes (Pa_trailer v))), ((q 12), ob 6 [.ref (q 13), .ref (q 14), .ref (q 15), .ref (q 16), .int (St_place (Pa_point v)), .int (St_steps (Pa_point v))]), ((q 13), aI K 8 (St_registers (Pa_point v))), ((q 14), aI K 4 (St_floats (Pa_point v))), ((q 15), aI K 8 (St_stuckMask (Pa_point v))), ((q 16), aI K 8 (St_stuckOnes (Pa_point v))), ((q 17), ob 4 [.ref (q 18), .ref (q 19), .ref (q 20), .ref (q 21), .ref (q 22), .ref (q 23), .ref (q 24), .int (Qu_firstLoad (Pa_queues v)), .int (Qu_loads (Pa_queues v)), .int (Qu_firstBranch (Pa_queues v)), .int (Qu_branches (Pa_queues v)), .int (Qu_held (Pa_queues v)), .int (Qu_comparedHeld (Pa_queues v))]), ((q 18), aI K 8 (Qu_loadAddress (Pa_queues v))), ((q 19), aI K 8 (Qu_loadWord (Pa_queues v))), ((q 20), aI K 8 (Qu_branch (Pa_queues v))), ((q 21), aI K 8 (Qu_heldAddress (Pa_queues v))), ((q 22), aI K 8 (Qu_heldWord (Pa_queues v))), ((q 23), aI K 8 (Qu_besideAddress (Pa_queues v))), ((q 24), aI K 8 (Qu_besideWord (Pa_queues v))), ((q 25), ob 1 [.ref (q 26), .ref (q 27), .ref (q 28), .ref (q 29), .ref (q 30), .int (Ou_stores (Pa_outside v)), .int (Ou_outputs (Pa_outside v))]), ((q 26), aI K 32 (Ou_memory (Pa_outside v))), ((q 27), aI K 40 (Ou_output (Pa_outside v))), ((q 28), aI K 16 (Ou_leftAddress (Pa_outside v))), ((q 29), aI K 16 (Ou_leftWord (Pa_outside v))), ((q 30), aI K 16 (Ou_leftPoint (Pa_outside v))), ((q 31), ob 7 [.ref (q 32), .ref (q 33), .ref (q 34), .ref (q 35), .int (Ta_turns (Pa_tally v)), .int (Ta_points (Pa_tally v)), .int (Ta_alarms (Pa_tally v)), .int (Ta_alarmsSincePoint (Pa_tally v)), .int (Ta_greatestAhead (Pa_tally v)), .int (Ta_aheadSum (Pa_tally v)), .int (Ta_leaderTurns (Pa_tally v)), .int (Ta_trailerTurns (Pa_tally v)), .int (Ta_comparedSteps (Pa_tally v))]), ((q 32), aI K 8 (Ta_alarmSort (Pa_tally v))), ((q 33), aI K 8 (Ta_alarmTurn (Pa_tally v))), ((q 34), aI K 8 (Ta_alarmLeaderSteps (Pa_tally v))), ((q 35), aI K 8 (Ta_alarmTrailerSteps (Pa_tally v))), ((g 0), ob 3 [.ref (g 1), .ref (g 2), .ref (g 3), .ref (g 4), .ref (g 5), .ref (g 6), .ref (g 7), .ref (g 8), .int (Pg_nameCount pr), .int (Pg_size pr), .int (Pg_lines pr)]), ((g 1), aI K 64 (Pg_code pr)), ((g 2), aI K 64 (Pg_first pr)), ((g 3), aI K 64 (Pg_second pr)), ((g 4), aI K 64 (Pg_third pr)), ((g 5), aI K 8 (Pg_rules pr)), ((g 6), aI K 32 (Pg_data pr)), ((g 7), aI K 140 (Pg_names pr)), ((g 8), aI K 140 (Pg_namedPlaces pr))]) (wc := [((q 0), ob 2 [.ref (q 1), .ref (q 2), .ref (q 7), .ref (q 12), .ref (q 17), .ref (q 25), .ref (q 31), .ref (g 0), .int (Pa_done v), .int (Pa_down v)]), ((q 1), aI K 8 (Pa_rules v)), ((q 2), ob 6 [.ref (q 3), .ref (q 4), .ref (q 5), .ref (q 6), .int (St_place (Pa_leader v)), .int (St_steps (Pa_leader v))]), ((q 3), aI K 8 (St_registers (Pa_leader v))), ((q 4), aI K 4 (St_floats (Pa_leader v))), ((q 5), aI K 8 (St_stuckMask (Pa_leader v))), ((q 6), aI K 8 (St_stuckOnes (Pa_leader v))), ((q 7), ob 6 [.ref (q 8), .ref (q 9), .ref (q 10), .ref (q 11), .int (St_place (Pa_trailer v)), .int (St_steps (Pa_trailer v))]), ((q 8), aI K 8 (St_registers (Pa_trailer v))), ((q 9), aI K 4 (St_floats (Pa_trailer v))), ((q 10), aI K 8 (St_stuckMask (Pa_trailer v))), ((q 11), aI K 8 (St_stuckOnes (Pa_trailer v))), ((q 12), ob 6 [.ref (q 13), .ref (q 14), .ref (q 15), .ref (q 16), .int (St_place (Pa_point v)), .int (St_steps (Pa_point v))]), ((q 13), aI K 8 (St_registers (Pa_point v))), ((q 14), aI K 4 (St_floats (Pa_point v))), ((q 15), aI K 8 (St_stuckMask (Pa_point v))), ((q 16), aI K 8 (St_stuckOnes (Pa_point v))), ((q 17), ob 4 [.ref (q 18), .ref (q 19), .ref (q 20), .ref (q 21), .ref (q 22), .ref (q 23), .ref (q 24), .int (Qu_firstLoad (Pa_queues v)), .int (Qu_loads (Pa_queues v)), .int (Qu_firstBranch (Pa_queues v)), .int (Qu_branches (Pa_queues v)), .int (Qu_held (Pa_queues v)), .int (Qu_comparedHeld (Pa_queues v))]), ((q 18), aI K 8 (Qu_loadAddress (Pa_queues v))), ((q 19), aI K 8 (Qu_loadWord (Pa_queues v))), ((q 20), aI K 8 (Qu_branch (Pa_queues v))), ((q 21), aI K 8 (Qu_heldAddress (Pa_queues v))), ((q 22), aI K 8 (Qu_heldWord (Pa_queues v))), ((q 23), aI K 8 (Qu_besideAddress (Pa_queues v))), ((q 24), aI K 8 (Qu_besideWord (Pa_queues v))), ((q 25), ob 1 [.ref (q 26), .ref (q 27), .ref (q 28), .ref (q 29), .ref (q 30), .int (Ou_stores (Pa_outside v)), .int (Ou_outputs (Pa_outside v))]), ((q 26), aI K 32 (Ou_memory (Pa_outside v))), ((q 27), aI K 40 (Ou_output (Pa_outside v))), ((q 28), aI K 16 (Ou_leftAddress (Pa_outside v))), ((q 29), aI K 16 (Ou_leftWord (Pa_outside v))), ((q 30), aI K 16 (Ou_leftPoint (Pa_outside v))), ((q 31), ob 7 [.ref (q 32), .ref (q 33), .ref (q 34), .ref (q 35), .int (Ta_turns (Pa_tally v)), .int (Ta_points (Pa_tally v)), .int (Ta_alarms (Pa_tally v)), .int (Ta_alarmsSincePoint (Pa_tally v)), .int (Ta_greatestAhead (Pa_tally v)), .int (Ta_aheadSum (Pa_tally v)), .int (Ta_leaderTurns (Pa_tally v)), .int (Ta_trailerTurns (Pa_tally v)), .int (Ta_comparedSteps (Pa_tally v))]), ((q 32), aI K 8 (Ta_alarmSort (Pa_tally v))), ((q 33), aI K 8 (Ta_alarmTurn (Pa_tally v))), ((q 34), aI K 8 (Ta_alarmLeaderSteps (Pa_tally v))), ((q 35), aI K 8 (Ta_alarmTrailerSteps (Pa_tally v)))]) (nn := 36) cx [] [] (m_Pa_ahead l D K q (g 0) v hc8) rfl yv_X3_ahead wd_722 ⟨rfl, rfl⟩ (by decide) (fr_s (j := 0) rfl rfl rfl (fr_s (j := 1) rfl rfl rfl (fr_s (j := 2) rfl rfl rfl (fr_s (j := 3) rfl rfl rfl (fr_s (j := 4) rfl rfl rfl (fr_s (j := 5) rfl rfl rfl (fr_s (j := 6) rfl rfl rfl (fr_s (j := 7) rfl rfl rfl (fr_s (j := 8) rfl rfl rfl (fr_s (j := 9) rfl rfl rfl (fr_s (j := 10) rfl rfl rfl (fr_s (j := 11) rfl rfl rfl (fr_s (j := 12) rfl rfl rfl (fr_s (j := 13) rfl rfl rfl (fr_s (j := 14) rfl rfl rfl (fr_s (j := 15) rfl rfl rfl (fr_s (j := 16) rfl rfl rfl (fr_s (j := 17) rfl rfl rfl (fr_s (j := 18) rfl rfl rfl (fr_s (j := 19) rfl rfl rfl (fr_s (j := 20) rfl rfl rfl (fr_s (j := 21) rfl rfl rfl (fr_s (j := 22) rfl rfl rfl (fr_s (j := 23) rfl rfl rfl (fr_s (j := 24) rfl rfl rfl (fr_s (j := 25) rfl rfl rfl (fr_s (j := 26) rfl rfl rfl (fr_s (j := 27) rfl rfl rfl (fr_s (j := 28) rfl rfl rfl (fr_s (j := 29) rfl rfl rfl (fr_s (j := 30) rfl rfl rfl (fr_s (j := 31) rfl rfl rfl (fr_s (j := 32) rfl rfl rfl (fr_s (j := 33) rfl rfl rfl (fr_s (j := 34) rfl rfl rfl (fr_s (j := 35) rfl rfl rfl (fr_k (fr_k (fr_k (fr_k (fr_k (fr_k (fr_k (fr_k (fr_k (fr_n)))))))))))))))))))))))))))))))))))))))))))))) rfl (by decide) 0 rfl rfl rfl (Nat.le_of_ble_eq_true rfl) dX3_whyTrailerWaits_52 ?_
        refine r_aload_n (pc := 55) cx dX3_whyTrailerWaits_55 1 rfl ?_
        refine r_get (pc := 56) cx cf_X3 0 0 rfl (by decide) rfl wd_510 dX3_whyTrailerWaits_56 ?_
        refine r_iconst (pc := 59) cx dX3_whyTrailerWaits_59 ic_1 ?_
        refine r_iald (pc := 60) cx 1 rfl (by decide) dX3_whyTrailerWaits_60 ?_
        refine r_icmp_ge (pc := 61) (tgt := 73) cx dX3_whyTrailerWaits_61 (by decide) (fun h9 => ?_) (fun h9 => ?_)
        · replace hf := ifp h9 hf
          refine r_iload_n (pc := 73) cx dX3_whyTrailerWaits_73 0 rfl ?_
          refine r_bipush (pc := 74) cx dX3_whyTrailerWaits_74 bp_6 ?_
          refine r_icmp_ne (pc := 76) (tgt := 89) cx dX3_whyTrailerWaits_76 (by decide) (fun h10 => ?_) (fun h10 => ?_)
          · replace hf := ifn h10 hf
            refine r_iload_n (pc := 89) cx dX3_whyTrailerWaits_89 0 rfl ?_
            refine r_bipush (pc := 90) cx dX3_whyTrailerWaits_90 bp_15 ?_
            refine r_icmp_lt (pc := 92) (tgt := 105) cx dX3_whyTrailerWaits_92 (by decide) (fun h11 => ?_) (fun h11 => ?_)
            · replace hf := ifp h11 hf
              refine r_iload_n (pc := 105) cx dX3_whyTrailerWaits_105 0 rfl ?_
              refine r_bipush (pc := 106) cx dX3_whyTrailerWaits_106 bp_7 ?_
              refine r_icmp_eq (pc := 108) (tgt := 117) cx dX3_whyTrailerWaits_108 (by decide) (fun h12 => ?_) (fun h12 => ?_)
              · replace hf := ifp h12 hf
                refine r_aload_n (pc := 117) cx dX3_whyTrailerWaits_117 1 rfl ?_
                refine r_get (pc := 118) cx cf_X3 0 4 rfl (by decide) rfl wd_518 dX3_whyTrailerWaits_118 ?_
                refine r_get (pc := 121) cx cf_X5 17 12 rfl (by decide) rfl wd_364 dX3_whyTrailerWaits_121 ?_
                refine r_aload_n (pc := 124) cx dX3_whyTrailerWaits_124 1 rfl ?_
                refine r_get (pc := 125) cx cf_X3 0 4 rfl (by decide) rfl wd_518 dX3_whyTrailerWaits_125 ?_
                refine r_get (pc := 128) cx cf_X5 17 11 rfl (by decide) rfl wd_361 dX3_whyTrailerWaits_128 ?_
                refine r_icmp_lt (pc := 131) (tgt := 138) cx dX3_whyTrailerWaits_131 (by decide) (fun h13 => ?_) (fun h13 => ?_)
                · replace hf := ifp h13 hf
                  refine r_iconst (pc := 138) cx dX3_whyTrailerWaits_138 ic_0 ?_
                  refine r_istore_n (pc := 139) (loc' := [(2, .int (0 : Int32)), (1, .int x2), (0, .ref (q 0))]) cx dX3_whyTrailerWaits_139 rfl (by decide) rfl ?_
                  refine r_iload_n (pc := 140) cx dX3_whyTrailerWaits_140 0 rfl ?_
                  refine r_if_eq (pc := 141) (tgt := 148) cx dX3_whyTrailerWaits_141 (by decide) (fun h14 => ?_) (fun h14 => ?_)
                  · replace hf := ifp h14 hf
                    refine r_iconst (pc := 148) cx dX3_whyTrailerWaits_148 ic_0 ?_
                    have hi := inj1 hf
                    exact r_iret (pc := 149) cx hi rfl dX3_whyTrailerWaits_149
                  · replace hf := ifn h14 hf
                    refine r_iconst (pc := 144) cx dX3_whyTrailerWaits_144 ic_4 ?_
                    refine r_goto (pc := 145) (tgt := 149) cx dX3_whyTrailerWaits_145 (by decide) ?_
                    have hi := inj1 hf
                    exact r_iret (pc := 149) cx hi rfl dX3_whyTrailerWaits_149
                · replace hf := ifn h13 hf
                  refine r_iconst (pc := 134) cx dX3_whyTrailerWaits_134 ic_1 ?_
                  refine r_goto (pc := 135) (tgt := 139) cx dX3_whyTrailerWaits_135 (by decide) ?_
                  refine r_istore_n (pc := 139) (loc' := [(2, .int (1 : Int32)), (1, .int x2), (0, .ref (q 0))]) cx dX3_whyTrailerWaits_139 rfl (by decide) rfl ?_
                  refine r_iload_n (pc := 140) cx dX3_whyTrailerWaits_140 0 rfl ?_
                  refine r_if_eq (pc := 141) (tgt := 148) cx dX3_whyTrailerWaits_141 (by decide) (fun h15 => ?_) (fun h15 => ?_)
                  · replace hf := ifp h15 hf
                    refine r_iconst (pc := 148) cx dX3_whyTrailerWaits_148 ic_0 ?_
                    have hi := inj1 hf
                    exact r_iret (pc := 149) cx hi rfl dX3_whyTrailerWaits_149
                  · replace hf := ifn h15 hf
                    refine r_iconst (pc := 144) cx dX3_whyTrailerWaits_144 ic_4 ?_
                    refine r_goto (pc := 145) (tgt := 149) cx dX3_whyTrailerWaits_145 (by decide) ?_
                    have hi := inj1 hf
                    exact r_iret (pc := 149) cx hi rfl dX3_whyTrailerWaits_149
              · replace hf := ifn h12 hf
                refine r_iload_n (pc := 111) cx dX3_whyTrailerWaits_111 0 rfl ?_
                refine r_bipush (pc := 112) cx dX3_whyTrailerWaits_112 bp_8 ?_
                refine r_icmp_ne (pc := 114) (tgt := 138) cx dX3_whyTrailerWaits_114 (by decide) (fun h16 => ?_) (fun h16 => ?_)
                · replace hf := ifn h16 hf
                  refine r_iconst (pc := 138) cx dX3_whyTrailerWaits_138 ic_0 ?_
                  refine r_istore_n (pc := 139) (loc' := [(2, .int (0 : Int32)), (1, .int x2), (0, .ref (q 0))]) cx dX3_whyTrailerWaits_139 rfl (by decide) rfl ?_
                  refine r_iload_n (pc := 140) cx dX3_whyTrailerWaits_140 0 rfl ?_
                  refine r_if_eq (pc := 141) (tgt := 148) cx dX3_whyTrailerWaits_141 (by decide) (fun h17 => ?_) (fun h17 => ?_)
                  · replace hf := ifp h17 hf
                    refine r_iconst (pc := 148) cx dX3_whyTrailerWaits_148 ic_0 ?_
                    have hi := inj1 hf
                    exact r_iret (pc := 149) cx hi rfl dX3_whyTrailerWaits_149
                  · replace hf := ifn h17 hf
                    refine r_iconst (pc := 144) cx dX3_whyTrailerWaits_144 ic_4 ?_
                    refine r_goto (pc := 145) (tgt := 149) cx dX3_whyTrailerWaits_145 (by decide) ?_
                    have hi := inj1 hf
                    exact r_iret (pc := 149) cx hi rfl dX3_whyTrailerWaits_149
                · replace hf := ifp h16 hf
                  refine r_aload_n (pc := 117) cx dX3_whyTrailerWaits_117 1 rfl ?_
                  refine r_get (pc := 118) cx cf_X3 0 4 rfl (by decide) rfl wd_518 dX3_whyTrailerWaits_118 ?_
                  refine r_get (pc := 121) cx cf_X5 17 12 rfl (by decide) rfl wd_364 dX3_whyTrailerWaits_121 ?_
                  refine r_aload_n (pc := 124) cx dX3_whyTrailerWaits_124 1 rfl ?_
                  refine r_get (pc := 125) cx cf_X3 0 4 rfl (by decide) rfl wd_518 dX3_whyTrailerWaits_125 ?_
                  refine r_get (pc := 128) cx cf_X5 17 11 rfl (by decide) rfl wd_361 dX3_whyTrailerWaits_128 ?_
                  refine r_icmp_lt (pc := 131) (tgt := 138) cx dX3_whyTrailerWaits_131 (by decide) (fun h18 => ?_) (fun h18 => ?_)
                  · replace hf := ifp h18 hf
                    refine r_iconst (pc := 138) cx dX3_whyTrailerWaits_138 ic_0 ?_
                    refine r_istore_n (pc := 139) (loc' := [(2, .int (0 : Int32)), (1, .int x2), (0, .ref (q 0))]) cx dX3_whyTrailerWaits_139 rfl (by decide) rfl ?_
                    refine r_iload_n (pc := 140) cx dX3_whyTrailerWaits_140 0 rfl ?_
                    refine r_if_eq (pc := 141) (tgt := 148) cx dX3_whyTrailerWaits_141 (by decide) (fun h19 => ?_) (fun h19 => ?_)
                    · replace hf := ifp h19 hf
                      refine r_iconst (pc := 148) cx dX3_whyTrailerWaits_148 ic_0 ?_
                      have hi := inj1 hf
                      exact r_iret (pc := 149) cx hi rfl dX3_whyTrailerWaits_149
                    · replace hf := ifn h19 hf
                      refine r_iconst (pc := 144) cx dX3_whyTrailerWaits_144 ic_4 ?_
                      refine r_goto (pc := 145) (tgt := 149) cx dX3_whyTrailerWaits_145 (by decide) ?_
                      have hi := inj1 hf
                      exact r_iret (pc := 149) cx hi rfl dX3_whyTrailerWaits_149
                  · replace hf := ifn h18 hf
                    refine r_iconst (pc := 134) cx dX3_whyTrailerWaits_134 ic_1 ?_
                    refine r_goto (pc := 135) (tgt := 139) cx dX3_whyTrailerWaits_135 (by decide) ?_
                    refine r_istore_n (pc := 139) (loc' := [(2, .int (1 : Int32)), (1, .int x2), (0, .ref (q 0))]) cx dX3_whyTrailerWaits_139 rfl (by decide) rfl ?_
                    refine r_iload_n (pc := 140) cx dX3_whyTrailerWaits_140 0 rfl ?_
                    refine r_if_eq (pc := 141) (tgt := 148) cx dX3_whyTrailerWaits_141 (by decide) (fun h20 => ?_) (fun h20 => ?_)
                    · replace hf := ifp h20 hf
                      refine r_iconst (pc := 148) cx dX3_whyTrailerWaits_148 ic_0 ?_
                      have hi := inj1 hf
                      exact r_iret (pc := 149) cx hi rfl dX3_whyTrailerWaits_149
                    · replace hf := ifn h20 hf
                      refine r_iconst (pc := 144) cx dX3_whyTrailerWaits_144 ic_4 ?_
                      refine r_goto (pc := 145) (tgt := 149) cx dX3_whyTrailerWaits_145 (by decide) ?_
                      have hi := inj1 hf
                      exact r_iret (pc := 149) cx hi rfl dX3_whyTrailerWaits_149
            · replace hf := ifn h11 hf
              refine r_aload_n (pc := 95) cx dX3_whyTrailerWaits_95 1 rfl ?_
              refine r_get (pc := 96) cx cf_X3 0 4 rfl (by decide) rfl wd_518 dX3_whyTrailerWaits_96 ?_
              refine r_get (pc := 99) cx cf_X5 17 10 rfl (by decide) rfl wd_358 dX3_whyTrailerWaits_99 ?_
              refine r_if_eq (pc := 102) (tgt := 134) cx dX3_whyTrailerWaits_102 (by decide) (fun h21 => ?_) (fun h21 => ?_)
              · replace hf := ifp h21 hf
                refine r_iconst (pc := 134) cx dX3_whyTrailerWaits_134 ic_1 ?_
                refine r_goto (pc := 135) (tgt := 139) cx dX3_whyTrailerWaits_135 (by decide) ?_
                refine r_istore_n (pc := 139) (loc' := [(2, .int (1 : Int32)), (1, .int x2), (0, .ref (q 0))]) cx dX3_whyTrailerWaits_139 rfl (by decide) rfl ?_
                refine r_iload_n (pc := 140) cx dX3_whyTrailerWaits_140 0 rfl ?_
                refine r_if_eq (pc := 141) (tgt := 148) cx dX3_whyTrailerWaits_141 (by decide) (fun h22 => ?_) (fun h22 => ?_)
                · replace hf := ifp h22 hf
                  refine r_iconst (pc := 148) cx dX3_whyTrailerWaits_148 ic_0 ?_
                  have hi := inj1 hf
                  exact r_iret (pc := 149) cx hi rfl dX3_whyTrailerWaits_149
                · replace hf := ifn h22 hf
                  refine r_iconst (pc := 144) cx dX3_whyTrailerWaits_144 ic_4 ?_
                  refine r_goto (pc := 145) (tgt := 149) cx dX3_whyTrailerWaits_145 (by decide) ?_
                  have hi := inj1 hf
                  exact r_iret (pc := 149) cx hi rfl dX3_whyTrailerWaits_149
              · replace hf := ifn h21 hf
                refine r_iload_n (pc := 105) cx dX3_whyTrailerWaits_105 0 rfl ?_
                refine r_bipush (pc := 106) cx dX3_whyTrailerWaits_106 bp_7 ?_
                refine r_icmp_eq (pc := 108) (tgt := 117) cx dX3_whyTrailerWaits_108 (by decide) (fun h23 => ?_) (fun h23 => ?_)
                · replace hf := ifp h23 hf
                  refine r_aload_n (pc := 117) cx dX3_whyTrailerWaits_117 1 rfl ?_
                  refine r_get (pc := 118) cx cf_X3 0 4 rfl (by decide) rfl wd_518 dX3_whyTrailerWaits_118 ?_
                  refine r_get (pc := 121) cx cf_X5 17 12 rfl (by decide) rfl wd_364 dX3_whyTrailerWaits_121 ?_
                  refine r_aload_n (pc := 124) cx dX3_whyTrailerWaits_124 1 rfl ?_
                  refine r_get (pc := 125) cx cf_X3 0 4 rfl (by decide) rfl wd_518 dX3_whyTrailerWaits_125 ?_
                  refine r_get (pc := 128) cx cf_X5 17 11 rfl (by decide) rfl wd_361 dX3_whyTrailerWaits_128 ?_
                  refine r_icmp_lt (pc := 131) (tgt := 138) cx dX3_whyTrailerWaits_131 (by decide) (fun h24 => ?_) (fun h24 => ?_)
                  · replace hf := ifp h24 hf
                    refine r_iconst (pc := 138) cx dX3_whyTrailerWaits_138 ic_0 ?_
                    refine r_istore_n (pc := 139) (loc' := [(2, .int (0 : Int32)), (1, .int x2), (0, .ref (q 0))]) cx dX3_whyTrailerWaits_139 rfl (by decide) rfl ?_
                    refine r_iload_n (pc := 140) cx dX3_whyTrailerWaits_140 0 rfl ?_
                    refine r_if_eq (pc := 141) (tgt := 148) cx dX3_whyTrailerWaits_141 (by decide) (fun h25 => ?_) (fun h25 => ?_)
                    · replace hf := ifp h25 hf
                      refine r_iconst (pc := 148) cx dX3_whyTrailerWaits_148 ic_0 ?_
                      have hi := inj1 hf
                      exact r_iret (pc := 149) cx hi rfl dX3_whyTrailerWaits_149
                    · replace hf := ifn h25 hf
                      refine r_iconst (pc := 144) cx dX3_whyTrailerWaits_144 ic_4 ?_
                      refine r_goto (pc := 145) (tgt := 149) cx dX3_whyTrailerWaits_145 (by decide) ?_
                      have hi := inj1 hf
                      exact r_iret (pc := 149) cx hi rfl dX3_whyTrailerWaits_149
                  · replace hf := ifn h24 hf
                    refine r_iconst (pc := 134) cx dX3_whyTrailerWaits_134 ic_1 ?_
                    refine r_goto (pc := 135) (tgt := 139) cx dX3_whyTrailerWaits_135 (by decide) ?_
                    refine r_istore_n (pc := 139) (loc' := [(2, .int (1 : Int32)), (1, .int x2), (0, .ref (q 0))]) cx dX3_whyTrailerWaits_139 rfl (by decide) rfl ?_
                    refine r_iload_n (pc := 140) cx dX3_whyTrailerWaits_140 0 rfl ?_
                    refine r_if_eq (pc := 141) (tgt := 148) cx dX3_whyTrailerWaits_141 (by decide) (fun h26 => ?_) (fun h26 => ?_)
                    · replace hf := ifp h26 hf
                      refine r_iconst (pc := 148) cx dX3_whyTrailerWaits_148 ic_0 ?_
                      have hi := inj1 hf
                      exact r_iret (pc := 149) cx hi rfl dX3_whyTrailerWaits_149
                    · replace hf := ifn h26 hf
                      refine r_iconst (pc := 144) cx dX3_whyTrailerWaits_144 ic_4 ?_
                      refine r_goto (pc := 145) (tgt := 149) cx dX3_whyTrailerWaits_145 (by decide) ?_
                      have hi := inj1 hf
                      exact r_iret (pc := 149) cx hi rfl dX3_whyTrailerWaits_149
                · replace hf := ifn h23 hf
                  refine r_iload_n (pc := 111) cx dX3_whyTrailerWaits_111 0 rfl ?_
                  refine r_bipush (pc := 112) cx dX3_whyTrailerWaits_112 bp_8 ?_
                  refine r_icmp_ne (pc := 114) (tgt := 138) cx dX3_whyTrailerWaits_114 (by decide) (fun h27 => ?_) (fun h27 => ?_)
                  · replace hf := ifn h27 hf
                    refine r_iconst (pc := 138) cx dX3_whyTrailerWaits_138 ic_0 ?_
                    refine r_istore_n (pc := 139) (loc' := [(2, .int (0 : Int32)), (1, .int x2), (0, .ref (q 0))]) cx dX3_whyTrailerWaits_139 rfl (by decide) rfl ?_
                    refine r_iload_n (pc := 140) cx dX3_whyTrailerWaits_140 0 rfl ?_
                    refine r_if_eq (pc := 141) (tgt := 148) cx dX3_whyTrailerWaits_141 (by decide) (fun h28 => ?_) (fun h28 => ?_)
                    · replace hf := ifp h28 hf
                      refine r_iconst (pc := 148) cx dX3_whyTrailerWaits_148 ic_0 ?_
                      have hi := inj1 hf
                      exact r_iret (pc := 149) cx hi rfl dX3_whyTrailerWaits_149
                    · replace hf := ifn h28 hf
                      refine r_iconst (pc := 144) cx dX3_whyTrailerWaits_144 ic_4 ?_
                      refine r_goto (pc := 145) (tgt := 149) cx dX3_whyTrailerWaits_145 (by decide) ?_
                      have hi := inj1 hf
                      exact r_iret (pc := 149) cx hi rfl dX3_whyTrailerWaits_149
                  · replace hf := ifp h27 hf
                    refine r_aload_n (pc := 117) cx dX3_whyTrailerWaits_117 1 rfl ?_
                    refine r_get (pc := 118) cx cf_X3 0 4 rfl (by decide) rfl wd_518 dX3_whyTrailerWaits_118 ?_
                    refine r_get (pc := 121) cx cf_X5 17 12 rfl (by decide) rfl wd_364 dX3_whyTrailerWaits_121 ?_
                    refine r_aload_n (pc := 124) cx dX3_whyTrailerWaits_124 1 rfl ?_
                    refine r_get (pc := 125) cx cf_X3 0 4 rfl (by decide) rfl wd_518 dX3_whyTrailerWaits_125 ?_
                    refine r_get (pc := 128) cx cf_X5 17 11 rfl (by decide) rfl wd_361 dX3_whyTrailerWaits_128 ?_
                    refine r_icmp_lt (pc := 131) (tgt := 138) cx dX3_whyTrailerWaits_131 (by decide) (fun h29 => ?_) (fun h29 => ?_)
                    · replace hf := ifp h29 hf
                      refine r_iconst (pc := 138) cx dX3_whyTrailerWaits_138 ic_0 ?_
                      refine r_istore_n (pc := 139) (loc' := [(2, .int (0 : Int32)), (1, .int x2), (0, .ref (q 0))]) cx dX3_whyTrailerWaits_139 rfl (by decide) rfl ?_
                      refine r_iload_n (pc := 140) cx dX3_whyTrailerWaits_140 0 rfl ?_
                      refine r_if_eq (pc := 141) (tgt := 148) cx dX3_whyTrailerWaits_141 (by decide) (fun h30 => ?_) (fun h30 => ?_)
                      · replace hf := ifp h30 hf
                        refine r_iconst (pc := 148) cx dX3_whyTrailerWaits_148 ic_0 ?_
                        have hi := inj1 hf
                        exact r_iret (pc := 149) cx hi rfl dX3_whyTrailerWaits_149
                      · replace hf := ifn h30 hf
                        refine r_iconst (pc := 144) cx dX3_whyTrailerWaits_144 ic_4 ?_
                        refine r_goto (pc := 145) (tgt := 149) cx dX3_whyTrailerWaits_145 (by decide) ?_
                        have hi := inj1 hf
                        exact r_iret (pc := 149) cx hi rfl dX3_whyTrailerWaits_149
                    · replace hf := ifn h29 hf
                      refine r_iconst (pc := 134) cx dX3_whyTrailerWaits_134 ic_1 ?_
                      refine r_goto (pc := 135) (tgt := 139) cx dX3_whyTrailerWaits_135 (by decide) ?_
                      refine r_istore_n (pc := 139) (loc' := [(2, .int (1 : Int32)), (1, .int x2), (0, .ref (q 0))]) cx dX3_whyTrailerWaits_139 rfl (by decide) rfl ?_
                      refine r_iload_n (pc := 140) cx dX3_whyTrailerWaits_140 0 rfl ?_
                      refine r_if_eq (pc := 141) (tgt := 148) cx dX3_whyTrailerWaits_141 (by decide) (fun h31 => ?_) (fun h31 => ?_)
                      · replace hf := ifp h31 hf
                        refine r_iconst (pc := 148) cx dX3_whyTrailerWaits_148 ic_0 ?_
                        have hi := inj1 hf
                        exact r_iret (pc := 149) cx hi rfl dX3_whyTrailerWaits_149
                      · replace hf := ifn h31 hf
                        refine r_iconst (pc := 144) cx dX3_whyTrailerWaits_144 ic_4 ?_
                        refine r_goto (pc := 145) (tgt := 149) cx dX3_whyTrailerWaits_145 (by decide) ?_
                        have hi := inj1 hf
                        exact r_iret (pc := 149) cx hi rfl dX3_whyTrailerWaits_149
          · replace hf := ifp h10 hf
            refine r_aload_n (pc := 79) cx dX3_whyTrailerWaits_79 1 rfl ?_
            refine r_get (pc := 80) cx cf_X3 0 4 rfl (by decide) rfl wd_518 dX3_whyTrailerWaits_80 ?_
            refine r_get (pc := 83) cx cf_X5 17 8 rfl (by decide) rfl wd_354 dX3_whyTrailerWaits_83 ?_
            refine r_if_eq (pc := 86) (tgt := 134) cx dX3_whyTrailerWaits_86 (by decide) (fun h32 => ?_) (fun h32 => ?_)
            · replace hf := ifp h32 hf
              refine r_iconst (pc := 134) cx dX3_whyTrailerWaits_134 ic_1 ?_
              refine r_goto (pc := 135) (tgt := 139) cx dX3_whyTrailerWaits_135 (by decide) ?_
              refine r_istore_n (pc := 139) (loc' := [(2, .int (1 : Int32)), (1, .int x2), (0, .ref (q 0))]) cx dX3_whyTrailerWaits_139 rfl (by decide) rfl ?_
              refine r_iload_n (pc := 140) cx dX3_whyTrailerWaits_140 0 rfl ?_
              refine r_if_eq (pc := 141) (tgt := 148) cx dX3_whyTrailerWaits_141 (by decide) (fun h33 => ?_) (fun h33 => ?_)
              · replace hf := ifp h33 hf
                refine r_iconst (pc := 148) cx dX3_whyTrailerWaits_148 ic_0 ?_
                have hi := inj1 hf
                exact r_iret (pc := 149) cx hi rfl dX3_whyTrailerWaits_149
              · replace hf := ifn h33 hf
                refine r_iconst (pc := 144) cx dX3_whyTrailerWaits_144 ic_4 ?_
                refine r_goto (pc := 145) (tgt := 149) cx dX3_whyTrailerWaits_145 (by decide) ?_
                have hi := inj1 hf
                exact r_iret (pc := 149) cx hi rfl dX3_whyTrailerWaits_149
            · replace hf := ifn h32 hf
              refine r_iload_n (pc := 89) cx dX3_whyTrailerWaits_89 0 rfl ?_
              refine r_bipush (pc := 90) cx dX3_whyTrailerWaits_90 bp_15 ?_
              refine r_icmp_lt (pc := 92) (tgt := 105) cx dX3_whyTrailerWaits_92 (by decide) (fun h34 => ?_) (fun h34 => ?_)
              · replace hf := ifp h34 hf
                refine r_iload_n (pc := 105) cx dX3_whyTrailerWaits_105 0 rfl ?_
                refine r_bipush (pc := 106) cx dX3_whyTrailerWaits_106 bp_7 ?_
                refine r_icmp_eq (pc := 108) (tgt := 117) cx dX3_whyTrailerWaits_108 (by decide) (fun h35 => ?_) (fun h35 => ?_)
                · replace hf := ifp h35 hf
                  refine r_aload_n (pc := 117) cx dX3_whyTrailerWaits_117 1 rfl ?_
                  refine r_get (pc := 118) cx cf_X3 0 4 rfl (by decide) rfl wd_518 dX3_whyTrailerWaits_118 ?_
                  refine r_get (pc := 121) cx cf_X5 17 12 rfl (by decide) rfl wd_364 dX3_whyTrailerWaits_121 ?_
                  refine r_aload_n (pc := 124) cx dX3_whyTrailerWaits_124 1 rfl ?_
                  refine r_get (pc := 125) cx cf_X3 0 4 rfl (by decide) rfl wd_518 dX3_whyTrailerWaits_125 ?_
                  refine r_get (pc := 128) cx cf_X5 17 11 rfl (by decide) rfl wd_361 dX3_whyTrailerWaits_128 ?_
                  refine r_icmp_lt (pc := 131) (tgt := 138) cx dX3_whyTrailerWaits_131 (by decide) (fun h36 => ?_) (fun h36 => ?_)
                  · replace hf := ifp h36 hf
                    refine r_iconst (pc := 138) cx dX3_whyTrailerWaits_138 ic_0 ?_
                    refine r_istore_n (pc := 139) (loc' := [(2, .int (0 : Int32)), (1, .int x2), (0, .ref (q 0))]) cx dX3_whyTrailerWaits_139 rfl (by decide) rfl ?_
                    refine r_iload_n (pc := 140) cx dX3_whyTrailerWaits_140 0 rfl ?_
                    refine r_if_eq (pc := 141) (tgt := 148) cx dX3_whyTrailerWaits_141 (by decide) (fun h37 => ?_) (fun h37 => ?_)
                    · replace hf := ifp h37 hf
                      refine r_iconst (pc := 148) cx dX3_whyTrailerWaits_148 ic_0 ?_
                      have hi := inj1 hf
                      exact r_iret (pc := 149) cx hi rfl dX3_whyTrailerWaits_149
                    · replace hf := ifn h37 hf
                      refine r_iconst (pc := 144) cx dX3_whyTrailerWaits_144 ic_4 ?_
                      refine r_goto (pc := 145) (tgt := 149) cx dX3_whyTrailerWaits_145 (by decide) ?_
                      have hi := inj1 hf
                      exact r_iret (pc := 149) cx hi rfl dX3_whyTrailerWaits_149
                  · replace hf := ifn h36 hf
                    refine r_iconst (pc := 134) cx dX3_whyTrailerWaits_134 ic_1 ?_
                    refine r_goto (pc := 135) (tgt := 139) cx dX3_whyTrailerWaits_135 (by decide) ?_
                    refine r_istore_n (pc := 139) (loc' := [(2, .int (1 : Int32)), (1, .int x2), (0, .ref (q 0))]) cx dX3_whyTrailerWaits_139 rfl (by decide) rfl ?_
                    refine r_iload_n (pc := 140) cx dX3_whyTrailerWaits_140 0 rfl ?_
                    refine r_if_eq (pc := 141) (tgt := 148) cx dX3_whyTrailerWaits_141 (by decide) (fun h38 => ?_) (fun h38 => ?_)
                    · replace hf := ifp h38 hf
                      refine r_iconst (pc := 148) cx dX3_whyTrailerWaits_148 ic_0 ?_
                      have hi := inj1 hf
                      exact r_iret (pc := 149) cx hi rfl dX3_whyTrailerWaits_149
                    · replace hf := ifn h38 hf
                      refine r_iconst (pc := 144) cx dX3_whyTrailerWaits_144 ic_4 ?_
                      refine r_goto (pc := 145) (tgt := 149) cx dX3_whyTrailerWaits_145 (by decide) ?_
                      have hi := inj1 hf
                      exact r_iret (pc := 149) cx hi rfl dX3_whyTrailerWaits_149
                · replace hf := ifn h35 hf
                  refine r_iload_n (pc := 111) cx dX3_whyTrailerWaits_111 0 rfl ?_
                  refine r_bipush (pc := 112) cx dX3_whyTrailerWaits_112 bp_8 ?_
                  refine r_icmp_ne (pc := 114) (tgt := 138) cx dX3_whyTrailerWaits_114 (by decide) (fun h39 => ?_) (fun h39 => ?_)
                  · replace hf := ifn h39 hf
                    refine r_iconst (pc := 138) cx dX3_whyTrailerWaits_138 ic_0 ?_
                    refine r_istore_n (pc := 139) (loc' := [(2, .int (0 : Int32)), (1, .int x2), (0, .ref (q 0))]) cx dX3_whyTrailerWaits_139 rfl (by decide) rfl ?_
                    refine r_iload_n (pc := 140) cx dX3_whyTrailerWaits_140 0 rfl ?_
                    refine r_if_eq (pc := 141) (tgt := 148) cx dX3_whyTrailerWaits_141 (by decide) (fun h40 => ?_) (fun h40 => ?_)
                    · replace hf := ifp h40 hf
                      refine r_iconst (pc := 148) cx dX3_whyTrailerWaits_148 ic_0 ?_
                      have hi := inj1 hf
                      exact r_iret (pc := 149) cx hi rfl dX3_whyTrailerWaits_149
                    · replace hf := ifn h40 hf
                      refine r_iconst (pc := 144) cx dX3_whyTrailerWaits_144 ic_4 ?_
                      refine r_goto (pc := 145) (tgt := 149) cx dX3_whyTrailerWaits_145 (by decide) ?_
                      have hi := inj1 hf
                      exact r_iret (pc := 149) cx hi rfl dX3_whyTrailerWaits_149
                  · replace hf := ifp h39 hf
                    refine r_aload_n (pc := 117) cx dX3_whyTrailerWaits_117 1 rfl ?_
                    refine r_get (pc := 118) cx cf_X3 0 4 rfl (by decide) rfl wd_518 dX3_whyTrailerWaits_118 ?_
                    refine r_get (pc := 121) cx cf_X5 17 12 rfl (by decide) rfl wd_364 dX3_whyTrailerWaits_121 ?_
                    refine r_aload_n (pc := 124) cx dX3_whyTrailerWaits_124 1 rfl ?_
                    refine r_get (pc := 125) cx cf_X3 0 4 rfl (by decide) rfl wd_518 dX3_whyTrailerWaits_125 ?_
                    refine r_get (pc := 128) cx cf_X5 17 11 rfl (by decide) rfl wd_361 dX3_whyTrailerWaits_128 ?_
                    refine r_icmp_lt (pc := 131) (tgt := 138) cx dX3_whyTrailerWaits_131 (by decide) (fun h41 => ?_) (fun h41 => ?_)
                    · replace hf := ifp h41 hf
                      refine r_iconst (pc := 138) cx dX3_whyTrailerWaits_138 ic_0 ?_
                      refine r_istore_n (pc := 139) (loc' := [(2, .int (0 : Int32)), (1, .int x2), (0, .ref (q 0))]) cx dX3_whyTrailerWaits_139 rfl (by decide) rfl ?_
                      refine r_iload_n (pc := 140) cx dX3_whyTrailerWaits_140 0 rfl ?_
                      refine r_if_eq (pc := 141) (tgt := 148) cx dX3_whyTrailerWaits_141 (by decide) (fun h42 => ?_) (fun h42 => ?_)
                      · replace hf := ifp h42 hf
                        refine r_iconst (pc := 148) cx dX3_whyTrailerWaits_148 ic_0 ?_
                        have hi := inj1 hf
                        exact r_iret (pc := 149) cx hi rfl dX3_whyTrailerWaits_149
                      · replace hf := ifn h42 hf
                        refine r_iconst (pc := 144) cx dX3_whyTrailerWaits_144 ic_4 ?_
                        refine r_goto (pc := 145) (tgt := 149) cx dX3_whyTrailerWaits_145 (by decide) ?_
                        have hi := inj1 hf
                        exact r_iret (pc := 149) cx hi rfl dX3_whyTrailerWaits_149
                    · replace hf := ifn h41 hf
                      refine r_iconst (pc := 134) cx dX3_whyTrailerWaits_134 ic_1 ?_
                      refine r_goto (pc := 135) (tgt := 139) cx dX3_whyTrailerWaits_135 (by decide) ?_
                      refine r_istore_n (pc := 139) (loc' := [(2, .int (1 : Int32)), (1, .int x2), (0, .ref (q 0))]) cx dX3_whyTrailerWaits_139 rfl (by decide) rfl ?_
                      refine r_iload_n (pc := 140) cx dX3_whyTrailerWaits_140 0 rfl ?_
                      refine r_if_eq (pc := 141) (tgt := 148) cx dX3_whyTrailerWaits_141 (by decide) (fun h43 => ?_) (fun h43 => ?_)
                      · replace hf := ifp h43 hf
                        refine r_iconst (pc := 148) cx dX3_whyTrailerWaits_148 ic_0 ?_
                        have hi := inj1 hf
                        exact r_iret (pc := 149) cx hi rfl dX3_whyTrailerWaits_149
                      · replace hf := ifn h43 hf
                        refine r_iconst (pc := 144) cx dX3_whyTrailerWaits_144 ic_4 ?_
                        refine r_goto (pc := 145) (tgt := 149) cx dX3_whyTrailerWaits_145 (by decide) ?_
                        have hi := inj1 hf
                        exact r_iret (pc := 149) cx hi rfl dX3_whyTrailerWaits_149
              · replace hf := ifn h34 hf
                refine r_aload_n (pc := 95) cx dX3_whyTrailerWaits_95 1 rfl ?_
                refine r_get (pc := 96) cx cf_X3 0 4 rfl (by decide) rfl wd_518 dX3_whyTrailerWaits_96 ?_
                refine r_get (pc := 99) cx cf_X5 17 10 rfl (by decide) rfl wd_358 dX3_whyTrailerWaits_99 ?_
                refine r_if_eq (pc := 102) (tgt := 134) cx dX3_whyTrailerWaits_102 (by decide) (fun h44 => ?_) (fun h44 => ?_)
                · replace hf := ifp h44 hf
                  refine r_iconst (pc := 134) cx dX3_whyTrailerWaits_134 ic_1 ?_
                  refine r_goto (pc := 135) (tgt := 139) cx dX3_whyTrailerWaits_135 (by decide) ?_
                  refine r_istore_n (pc := 139) (loc' := [(2, .int (1 : Int32)), (1, .int x2), (0, .ref (q 0))]) cx dX3_whyTrailerWaits_139 rfl (by decide) rfl ?_
                  refine r_iload_n (pc := 140) cx dX3_whyTrailerWaits_140 0 rfl ?_
                  refine r_if_eq (pc := 141) (tgt := 148) cx dX3_whyTrailerWaits_141 (by decide) (fun h45 => ?_) (fun h45 => ?_)
                  · replace hf := ifp h45 hf
                    refine r_iconst (pc := 148) cx dX3_whyTrailerWaits_148 ic_0 ?_
                    have hi := inj1 hf
                    exact r_iret (pc := 149) cx hi rfl dX3_whyTrailerWaits_149
                  · replace hf := ifn h45 hf
                    refine r_iconst (pc := 144) cx dX3_whyTrailerWaits_144 ic_4 ?_
                    refine r_goto (pc := 145) (tgt := 149) cx dX3_whyTrailerWaits_145 (by decide) ?_
                    have hi := inj1 hf
                    exact r_iret (pc := 149) cx hi rfl dX3_whyTrailerWaits_149
                · replace hf := ifn h44 hf
                  refine r_iload_n (pc := 105) cx dX3_whyTrailerWaits_105 0 rfl ?_
                  refine r_bipush (pc := 106) cx dX3_whyTrailerWaits_106 bp_7 ?_
                  refine r_icmp_eq (pc := 108) (tgt := 117) cx dX3_whyTrailerWaits_108 (by decide) (fun h46 => ?_) (fun h46 => ?_)
                  · replace hf := ifp h46 hf
                    refine r_aload_n (pc := 117) cx dX3_whyTrailerWaits_117 1 rfl ?_
                    refine r_get (pc := 118) cx cf_X3 0 4 rfl (by decide) rfl wd_518 dX3_whyTrailerWaits_118 ?_
                    refine r_get (pc := 121) cx cf_X5 17 12 rfl (by decide) rfl wd_364 dX3_whyTrailerWaits_121 ?_
                    refine r_aload_n (pc := 124) cx dX3_whyTrailerWaits_124 1 rfl ?_
                    refine r_get (pc := 125) cx cf_X3 0 4 rfl (by decide) rfl wd_518 dX3_whyTrailerWaits_125 ?_
                    refine r_get (pc := 128) cx cf_X5 17 11 rfl (by decide) rfl wd_361 dX3_whyTrailerWaits_128 ?_
                    refine r_icmp_lt (pc := 131) (tgt := 138) cx dX3_whyTrailerWaits_131 (by decide) (fun h47 => ?_) (fun h47 => ?_)
                    · replace hf := ifp h47 hf
                      refine r_iconst (pc := 138) cx dX3_whyTrailerWaits_138 ic_0 ?_
                      refine r_istore_n (pc := 139) (loc' := [(2, .int (0 : Int32)), (1, .int x2), (0, .ref (q 0))]) cx dX3_whyTrailerWaits_139 rfl (by decide) rfl ?_
                      refine r_iload_n (pc := 140) cx dX3_whyTrailerWaits_140 0 rfl ?_
                      refine r_if_eq (pc := 141) (tgt := 148) cx dX3_whyTrailerWaits_141 (by decide) (fun h48 => ?_) (fun h48 => ?_)
                      · replace hf := ifp h48 hf
                        refine r_iconst (pc := 148) cx dX3_whyTrailerWaits_148 ic_0 ?_
                        have hi := inj1 hf
                        exact r_iret (pc := 149) cx hi rfl dX3_whyTrailerWaits_149
                      · replace hf := ifn h48 hf
                        refine r_iconst (pc := 144) cx dX3_whyTrailerWaits_144 ic_4 ?_
                        refine r_goto (pc := 145) (tgt := 149) cx dX3_whyTrailerWaits_145 (by decide) ?_
                        have hi := inj1 hf
                        exact r_iret (pc := 149) cx hi rfl dX3_whyTrailerWaits_149
                    · replace hf := ifn h47 hf
                      refine r_iconst (pc := 134) cx dX3_whyTrailerWaits_134 ic_1 ?_
                      refine r_goto (pc := 135) (tgt := 139) cx dX3_whyTrailerWaits_135 (by decide) ?_
                      refine r_istore_n (pc := 139) (loc' := [(2, .int (1 : Int32)), (1, .int x2), (0, .ref (q 0))]) cx dX3_whyTrailerWaits_139 rfl (by decide) rfl ?_
                      refine r_iload_n (pc := 140) cx dX3_whyTrailerWaits_140 0 rfl ?_
                      refine r_if_eq (pc := 141) (tgt := 148) cx dX3_whyTrailerWaits_141 (by decide) (fun h49 => ?_) (fun h49 => ?_)
                      · replace hf := ifp h49 hf
                        refine r_iconst (pc := 148) cx dX3_whyTrailerWaits_148 ic_0 ?_
                        have hi := inj1 hf
                        exact r_iret (pc := 149) cx hi rfl dX3_whyTrailerWaits_149
                      · replace hf := ifn h49 hf
                        refine r_iconst (pc := 144) cx dX3_whyTrailerWaits_144 ic_4 ?_
                        refine r_goto (pc := 145) (tgt := 149) cx dX3_whyTrailerWaits_145 (by decide) ?_
                        have hi := inj1 hf
                        exact r_iret (pc := 149) cx hi rfl dX3_whyTrailerWaits_149
                  · replace hf := ifn h46 hf
                    refine r_iload_n (pc := 111) cx dX3_whyTrailerWaits_111 0 rfl ?_
                    refine r_bipush (pc := 112) cx dX3_whyTrailerWaits_112 bp_8 ?_
                    refine r_icmp_ne (pc := 114) (tgt := 138) cx dX3_whyTrailerWaits_114 (by decide) (fun h50 => ?_) (fun h50 => ?_)
                    · replace hf := ifn h50 hf
                      refine r_iconst (pc := 138) cx dX3_whyTrailerWaits_138 ic_0 ?_
                      refine r_istore_n (pc := 139) (loc' := [(2, .int (0 : Int32)), (1, .int x2), (0, .ref (q 0))]) cx dX3_whyTrailerWaits_139 rfl (by decide) rfl ?_
                      refine r_iload_n (pc := 140) cx dX3_whyTrailerWaits_140 0 rfl ?_
                      refine r_if_eq (pc := 141) (tgt := 148) cx dX3_whyTrailerWaits_141 (by decide) (fun h51 => ?_) (fun h51 => ?_)
                      · replace hf := ifp h51 hf
                        refine r_iconst (pc := 148) cx dX3_whyTrailerWaits_148 ic_0 ?_
                        have hi := inj1 hf
                        exact r_iret (pc := 149) cx hi rfl dX3_whyTrailerWaits_149
                      · replace hf := ifn h51 hf
                        refine r_iconst (pc := 144) cx dX3_whyTrailerWaits_144 ic_4 ?_
                        refine r_goto (pc := 145) (tgt := 149) cx dX3_whyTrailerWaits_145 (by decide) ?_
                        have hi := inj1 hf
                        exact r_iret (pc := 149) cx hi rfl dX3_whyTrailerWaits_149
                    · replace hf := ifp h50 hf
                      refine r_aload_n (pc := 117) cx dX3_whyTrailerWaits_117 1 rfl ?_
                      refine r_get (pc := 118) cx cf_X3 0 4 rfl (by decide) rfl wd_518 dX3_whyTrailerWaits_118 ?_
                      refine r_get (pc := 121) cx cf_X5 17 12 rfl (by decide) rfl wd_364 dX3_whyTrailerWaits_121 ?_
                      refine r_aload_n (pc := 124) cx dX3_whyTrailerWaits_124 1 rfl ?_
                      refine r_get (pc := 125) cx cf_X3 0 4 rfl (by decide) rfl wd_518 dX3_whyTrailerWaits_125 ?_
                      refine r_get (pc := 128) cx cf_X5 17 11 rfl (by decide) rfl wd_361 dX3_whyTrailerWaits_128 ?_
                      refine r_icmp_lt (pc := 131) (tgt := 138) cx dX3_whyTrailerWaits_131 (by decide) (fun h52 => ?_) (fun h52 => ?_)
                      · replace hf := ifp h52 hf
                        refine r_iconst (pc := 138) cx dX3_whyTrailerWaits_138 ic_0 ?_
                        refine r_istore_n (pc := 139) (loc' := [(2, .int (0 : Int32)), (1, .int x2), (0, .ref (q 0))]) cx dX3_whyTrailerWaits_139 rfl (by decide) rfl ?_
                        refine r_iload_n (pc := 140) cx dX3_whyTrailerWaits_140 0 rfl ?_
                        refine r_if_eq (pc := 141) (tgt := 148) cx dX3_whyTrailerWaits_141 (by decide) (fun h53 => ?_) (fun h53 => ?_)
                        · replace hf := ifp h53 hf
                          refine r_iconst (pc := 148) cx dX3_whyTrailerWaits_148 ic_0 ?_
                          have hi := inj1 hf
                          exact r_iret (pc := 149) cx hi rfl dX3_whyTrailerWaits_149
                        · replace hf := ifn h53 hf
                          refine r_iconst (pc := 144) cx dX3_whyTrailerWaits_144 ic_4 ?_
                          refine r_goto (pc := 145) (tgt := 149) cx dX3_whyTrailerWaits_145 (by decide) ?_
                          have hi := inj1 hf
                          exact r_iret (pc := 149) cx hi rfl dX3_whyTrailerWaits_149
                      · replace hf := ifn h52 hf
                        refine r_iconst (pc := 134) cx dX3_whyTrailerWaits_134 ic_1 ?_
                        refine r_goto (pc := 135) (tgt := 139) cx dX3_whyTrailerWaits_135 (by decide) ?_
                        refine r_istore_n (pc := 139) (loc' := [(2, .int (1 : Int32)), (1, .int x2), (0, .ref (q 0))]) cx dX3_whyTrailerWaits_139 rfl (by decide) rfl ?_
                        refine r_iload_n (pc := 140) cx dX3_whyTrailerWaits_140 0 rfl ?_
                        refine r_if_eq (pc := 141) (tgt := 148) cx dX3_whyTrailerWaits_141 (by decide) (fun h54 => ?_) (fun h54 => ?_)
                        · replace hf := ifp h54 hf
                          refine r_iconst (pc := 148) cx dX3_whyTrailerWaits_148 ic_0 ?_
                          have hi := inj1 hf
                          exact r_iret (pc := 149) cx hi rfl dX3_whyTrailerWaits_149
                        · replace hf := ifn h54 hf
                          refine r_iconst (pc := 144) cx dX3_whyTrailerWaits_144 ic_4 ?_
                          refine r_goto (pc := 145) (tgt := 149) cx dX3_whyTrailerWaits_145 (by decide) ?_
                          have hi := inj1 hf
                          exact r_iret (pc := 149) cx hi rfl dX3_whyTrailerWaits_149
        · replace hf := ifn h9 hf
          refine r_aload_n (pc := 64) cx dX3_whyTrailerWaits_64 1 rfl ?_
          replace hf := bd_of hf
          obtain ⟨r55, hc56, hf⟩ := hf
          refine r_Vi (pc := 65) (ws' := [((q 0), ob 2 [.ref (q 1), .ref (q 2), .ref (q 7), .ref (q 12), .ref (q 17), .ref (q 25), .ref (q 31), .ref (g 0), .int (Pa_done v), .int (Pa_down v)]), ((q 1), aI K 8 (Pa_rules v)), ((q 2), ob 6 [.ref (q 3), .ref (q 4), .ref (q 5), .ref (q 6), .int (St_place (Pa_leader v)), .int (St_steps (Pa_leader v))]), ((q 3), aI K 8 (St_registers (Pa_leader v))), ((q 4), aI K 4 (St_floats (Pa_leader v))), ((q 5), aI K 8 (St_stuckMask (Pa_leader v))), ((q 6), aI K 8 (St_stuckOnes (Pa_leader v))), ((q 7), ob 6 [.ref (q 8), .ref (q 9), .ref (q 10), .ref (q 11), .int (St_place (Pa_trailer v)), .int (St_steps (Pa_trailer v))]), ((q 8), aI K 8 (St_registers (Pa_trailer v))), ((q 9), aI K 4 (St_floats (Pa_trailer v))), ((q 10), aI K 8 (St_stuckMask (Pa_trailer v))), ((q 11), aI K 8 (St_stuckOnes (Pa_trailer v))), ((q 12), ob 6 [.ref (q 13), .ref (q 14), .ref (q 15), .ref (q 16), .int (St_place (Pa_point v)), .int (St_steps (Pa_point v))]), ((q 13), aI K 8 (St_registers (Pa_point v))), ((q 14), aI K 4 (St_floats (Pa_point v))), ((q 15), aI K 8 (St_stuckMask (Pa_point v))), ((q 16), aI K 8 (St_stuckOnes (Pa_point v))), ((q 17), ob 4 [.ref (q 18), .ref (q 19), .ref (q 20), .ref (q 21), .ref (q 22), .ref (q 23), .ref (q 24), .int (Qu_firstLoad (Pa_queues v)), .int (Qu_loads (Pa_queues v)), .int (Qu_firstBranch (Pa_queues v)), .int (Qu_branches (Pa_queues v)), .int (Qu_held (Pa_queues v)), .int (Qu_comparedHeld (Pa_queues v))]), ((q 18), aI K 8 (Qu_loadAddress (Pa_queues v))), ((q 19), aI K 8 (Qu_loadWord (Pa_queues v))), ((q 20), aI K 8 (Qu_branch (Pa_queues v))), ((q 21), aI K 8 (Qu_heldAddress (Pa_queues v))), ((q 22), aI K 8 (Qu_heldWord (Pa_queues v))), ((q 23), aI K 8 (Qu_besideAddress (Pa_queues v))), ((q 24), aI K 8 (Qu_besideWord (Pa_queues v))), ((q 25), ob 1 [.ref (q 26), .ref (q 27), .ref (q 28), .ref (q 29), .ref (q 30), .int (Ou_stores (Pa_outside v)), .int (Ou_outputs (Pa_outside v))]), ((q 26), aI K 32 (Ou_memory (Pa_outside v))), ((q 27), aI K 40 (Ou_output (Pa_outside v))), ((q 28), aI K 16 (Ou_leftAddress (Pa_outside v))), ((q 29), aI K 16 (Ou_leftWord (Pa_outside v))), ((q 30), aI K 16 (Ou_leftPoint (Pa_outside v))), ((q 31), ob 7 [.ref (q 32), .ref (q 33), .ref (q 34), .ref (q 35), .int (Ta_turns (Pa_tally v)), .int (Ta_points (Pa_tally v)), .int (Ta_alarms (Pa_tally v)), .int (Ta_alarmsSincePoint (Pa_tally v)), .int (Ta_greatestAhead (Pa_tally v)), .int (Ta_aheadSum (Pa_tally v)), .int (Ta_leaderTurns (Pa_tally v)), .int (Ta_trailerTurns (Pa_tally v)), .int (Ta_comparedSteps (Pa_tally v))]), ((q 32), aI K 8 (Ta_alarmSort (Pa_tally v))), ((q 33), aI K 8 (Ta_alarmTurn (Pa_tally v))), ((q 34), aI K 8 (Ta_alarmLeaderSteps (Pa_tally v))), ((q 35), aI K 8 (Ta_alarmTrailerSteps (Pa_tally v))), ((g 0), ob 3 [.ref (g 1), .ref (g 2), .ref (g 3), .ref (g 4), .ref (g 5), .ref (g 6), .ref (g 7), .ref (g 8), .int (Pg_nameCount pr), .int (Pg_size pr), .int (Pg_lines pr)]), ((g 1), aI K 64 (Pg_code pr)), ((g 2), aI K 64 (Pg_first pr)), ((g 3), aI K 64 (Pg_second pr)), ((g 4), aI K 64 (Pg_third pr)), ((g 5), aI K 8 (Pg_rules pr)), ((g 6), aI K 32 (Pg_data pr)), ((g 7), aI K 140 (Pg_names pr)), ((g 8), aI K 140 (Pg_namedPlaces pr))]) (wc := [((q 0), ob 2 [.ref (q 1), .ref (q 2), .ref (q 7), .ref (q 12), .ref (q 17), .ref (q 25), .ref (q 31), .ref (g 0), .int (Pa_done v), .int (Pa_down v)]), ((q 1), aI K 8 (Pa_rules v)), ((q 2), ob 6 [.ref (q 3), .ref (q 4), .ref (q 5), .ref (q 6), .int (St_place (Pa_leader v)), .int (St_steps (Pa_leader v))]), ((q 3), aI K 8 (St_registers (Pa_leader v))), ((q 4), aI K 4 (St_floats (Pa_leader v))), ((q 5), aI K 8 (St_stuckMask (Pa_leader v))), ((q 6), aI K 8 (St_stuckOnes (Pa_leader v))), ((q 7), ob 6 [.ref (q 8), .ref (q 9), .ref (q 10), .ref (q 11), .int (St_place (Pa_trailer v)), .int (St_steps (Pa_trailer v))]), ((q 8), aI K 8 (St_registers (Pa_trailer v))), ((q 9), aI K 4 (St_floats (Pa_trailer v))), ((q 10), aI K 8 (St_stuckMask (Pa_trailer v))), ((q 11), aI K 8 (St_stuckOnes (Pa_trailer v))), ((q 12), ob 6 [.ref (q 13), .ref (q 14), .ref (q 15), .ref (q 16), .int (St_place (Pa_point v)), .int (St_steps (Pa_point v))]), ((q 13), aI K 8 (St_registers (Pa_point v))), ((q 14), aI K 4 (St_floats (Pa_point v))), ((q 15), aI K 8 (St_stuckMask (Pa_point v))), ((q 16), aI K 8 (St_stuckOnes (Pa_point v))), ((q 17), ob 4 [.ref (q 18), .ref (q 19), .ref (q 20), .ref (q 21), .ref (q 22), .ref (q 23), .ref (q 24), .int (Qu_firstLoad (Pa_queues v)), .int (Qu_loads (Pa_queues v)), .int (Qu_firstBranch (Pa_queues v)), .int (Qu_branches (Pa_queues v)), .int (Qu_held (Pa_queues v)), .int (Qu_comparedHeld (Pa_queues v))]), ((q 18), aI K 8 (Qu_loadAddress (Pa_queues v))), ((q 19), aI K 8 (Qu_loadWord (Pa_queues v))), ((q 20), aI K 8 (Qu_branch (Pa_queues v))), ((q 21), aI K 8 (Qu_heldAddress (Pa_queues v))), ((q 22), aI K 8 (Qu_heldWord (Pa_queues v))), ((q 23), aI K 8 (Qu_besideAddress (Pa_queues v))), ((q 24), aI K 8 (Qu_besideWord (Pa_queues v))), ((q 25), ob 1 [.ref (q 26), .ref (q 27), .ref (q 28), .ref (q 29), .ref (q 30), .int (Ou_stores (Pa_outside v)), .int (Ou_outputs (Pa_outside v))]), ((q 26), aI K 32 (Ou_memory (Pa_outside v))), ((q 27), aI K 40 (Ou_output (Pa_outside v))), ((q 28), aI K 16 (Ou_leftAddress (Pa_outside v))), ((q 29), aI K 16 (Ou_leftWord (Pa_outside v))), ((q 30), aI K 16 (Ou_leftPoint (Pa_outside v))), ((q 31), ob 7 [.ref (q 32), .ref (q 33), .ref (q 34), .ref (q 35), .int (Ta_turns (Pa_tally v)), .int (Ta_points (Pa_tally v)), .int (Ta_alarms (Pa_tally v)), .int (Ta_alarmsSincePoint (Pa_tally v)), .int (Ta_greatestAhead (Pa_tally v)), .int (Ta_aheadSum (Pa_tally v)), .int (Ta_leaderTurns (Pa_tally v)), .int (Ta_trailerTurns (Pa_tally v)), .int (Ta_comparedSteps (Pa_tally v))]), ((q 32), aI K 8 (Ta_alarmSort (Pa_tally v))), ((q 33), aI K 8 (Ta_alarmTurn (Pa_tally v))), ((q 34), aI K 8 (Ta_alarmLeaderSteps (Pa_tally v))), ((q 35), aI K 8 (Ta_alarmTrailerSteps (Pa_tally v))), ((g 0), ob 3 [.ref (g 1), .ref (g 2), .ref (g 3), .ref (g 4), .ref (g 5), .ref (g 6), .ref (g 7), .ref (g 8), .int (Pg_nameCount pr), .int (Pg_size pr), .int (Pg_lines pr)]), ((g 1), aI K 64 (Pg_code pr)), ((g 2), aI K 64 (Pg_first pr)), ((g 3), aI K 64 (Pg_second pr)), ((g 4), aI K 64 (Pg_third pr)), ((g 5), aI K 8 (Pg_rules pr)), ((g 6), aI K 32 (Pg_data pr)), ((g 7), aI K 140 (Pg_names pr)), ((g 8), aI K 140 (Pg_namedPlaces pr))]) (nn := 45) cx [] [] (m_Pa_whyLeaderWaits l D K q v g pr hc56) rfl yv_X3_whyLeaderWaits wd_726 ⟨rfl, rfl⟩ (by decide) (fr_s (j := 0) rfl rfl rfl (fr_s (j := 1) rfl rfl rfl (fr_s (j := 2) rfl rfl rfl (fr_s (j := 3) rfl rfl rfl (fr_s (j := 4) rfl rfl rfl (fr_s (j := 5) rfl rfl rfl (fr_s (j := 6) rfl rfl rfl (fr_s (j := 7) rfl rfl rfl (fr_s (j := 8) rfl rfl rfl (fr_s (j := 9) rfl rfl rfl (fr_s (j := 10) rfl rfl rfl (fr_s (j := 11) rfl rfl rfl (fr_s (j := 12) rfl rfl rfl (fr_s (j := 13) rfl rfl rfl (fr_s (j := 14) rfl rfl rfl (fr_s (j := 15) rfl rfl rfl (fr_s (j := 16) rfl rfl rfl (fr_s (j := 17) rfl rfl rfl (fr_s (j := 18) rfl rfl rfl (fr_s (j := 19) rfl rfl rfl (fr_s (j := 20) rfl rfl rfl (fr_s (j := 21) rfl rfl rfl (fr_s (j := 22) rfl rfl rfl (fr_s (j := 23) rfl rfl rfl (fr_s (j := 24) rfl rfl rfl (fr_s (j := 25) rfl rfl rfl (fr_s (j := 26) rfl rfl rfl (fr_s (j := 27) rfl rfl rfl (fr_s (j := 28) rfl rfl rfl (fr_s (j := 29) rfl rfl rfl (fr_s (j := 30) rfl rfl rfl (fr_s (j := 31) rfl rfl rfl (fr_s (j := 32) rfl rfl rfl (fr_s (j := 33) rfl rfl rfl (fr_s (j := 34) rfl rfl rfl (fr_s (j := 35) rfl rfl rfl (fr_s (j := 36) rfl rfl rfl (fr_s (j := 37) rfl rfl rfl (fr_s (j := 38) rfl rfl rfl (fr_s (j := 39) rfl rfl rfl (fr_s (j := 40) rfl rfl rfl (fr_s (j := 41) rfl rfl rfl (fr_s (j := 42) rfl rfl rfl (fr_s (j := 43) rfl rfl rfl (fr_s (j := 44) rfl rfl rfl (fr_n)))))))))))))))))))))))))))))))))))))))))))))) rfl (by decide) 0 rfl rfl rfl (Nat.le_of_ble_eq_true rfl) dX3_whyTrailerWaits_65 ?_
          refine r_if_ne (pc := 68) (tgt := 73) cx dX3_whyTrailerWaits_68 (by decide) (fun h57 => ?_) (fun h57 => ?_)
          · replace hf := ifn h57 hf
            refine r_iload_n (pc := 73) cx dX3_whyTrailerWaits_73 0 rfl ?_
            refine r_bipush (pc := 74) cx dX3_whyTrailerWaits_74 bp_6 ?_
            refine r_icmp_ne (pc := 76) (tgt := 89) cx dX3_whyTrailerWaits_76 (by decide) (fun h58 => ?_) (fun h58 => ?_)
            · replace hf := ifn h58 hf
              refine r_iload_n (pc := 89) cx dX3_whyTrailerWaits_89 0 rfl ?_
              refine r_bipush (pc := 90) cx dX3_whyTrailerWaits_90 bp_15 ?_
              refine r_icmp_lt (pc := 92) (tgt := 105) cx dX3_whyTrailerWaits_92 (by decide) (fun h59 => ?_) (fun h59 => ?_)
              · replace hf := ifp h59 hf
                refine r_iload_n (pc := 105) cx dX3_whyTrailerWaits_105 0 rfl ?_
                refine r_bipush (pc := 106) cx dX3_whyTrailerWaits_106 bp_7 ?_
                refine r_icmp_eq (pc := 108) (tgt := 117) cx dX3_whyTrailerWaits_108 (by decide) (fun h60 => ?_) (fun h60 => ?_)
                · replace hf := ifp h60 hf
                  refine r_aload_n (pc := 117) cx dX3_whyTrailerWaits_117 1 rfl ?_
                  refine r_get (pc := 118) cx cf_X3 0 4 rfl (by decide) rfl wd_518 dX3_whyTrailerWaits_118 ?_
                  refine r_get (pc := 121) cx cf_X5 17 12 rfl (by decide) rfl wd_364 dX3_whyTrailerWaits_121 ?_
                  refine r_aload_n (pc := 124) cx dX3_whyTrailerWaits_124 1 rfl ?_
                  refine r_get (pc := 125) cx cf_X3 0 4 rfl (by decide) rfl wd_518 dX3_whyTrailerWaits_125 ?_
                  refine r_get (pc := 128) cx cf_X5 17 11 rfl (by decide) rfl wd_361 dX3_whyTrailerWaits_128 ?_
                  refine r_icmp_lt (pc := 131) (tgt := 138) cx dX3_whyTrailerWaits_131 (by decide) (fun h61 => ?_) (fun h61 => ?_)
                  · replace hf := ifp h61 hf
                    refine r_iconst (pc := 138) cx dX3_whyTrailerWaits_138 ic_0 ?_
                    refine r_istore_n (pc := 139) (loc' := [(2, .int (0 : Int32)), (1, .int x2), (0, .ref (q 0))]) cx dX3_whyTrailerWaits_139 rfl (by decide) rfl ?_
                    refine r_iload_n (pc := 140) cx dX3_whyTrailerWaits_140 0 rfl ?_
                    refine r_if_eq (pc := 141) (tgt := 148) cx dX3_whyTrailerWaits_141 (by decide) (fun h62 => ?_) (fun h62 => ?_)
                    · replace hf := ifp h62 hf
                      refine r_iconst (pc := 148) cx dX3_whyTrailerWaits_148 ic_0 ?_
                      have hi := inj1 hf
                      exact r_iret (pc := 149) cx hi rfl dX3_whyTrailerWaits_149
                    · replace hf := ifn h62 hf
                      refine r_iconst (pc := 144) cx dX3_whyTrailerWaits_144 ic_4 ?_
                      refine r_goto (pc := 145) (tgt := 149) cx dX3_whyTrailerWaits_145 (by decide) ?_
                      have hi := inj1 hf
                      exact r_iret (pc := 149) cx hi rfl dX3_whyTrailerWaits_149
                  · replace hf := ifn h61 hf
                    refine r_iconst (pc := 134) cx dX3_whyTrailerWaits_134 ic_1 ?_
                    refine r_goto (pc := 135) (tgt := 139) cx dX3_whyTrailerWaits_135 (by decide) ?_
                    refine r_istore_n (pc := 139) (loc' := [(2, .int (1 : Int32)), (1, .int x2), (0, .ref (q 0))]) cx dX3_whyTrailerWaits_139 rfl (by decide) rfl ?_
                    refine r_iload_n (pc := 140) cx dX3_whyTrailerWaits_140 0 rfl ?_
                    refine r_if_eq (pc := 141) (tgt := 148) cx dX3_whyTrailerWaits_141 (by decide) (fun h63 => ?_) (fun h63 => ?_)
                    · replace hf := ifp h63 hf
                      refine r_iconst (pc := 148) cx dX3_whyTrailerWaits_148 ic_0 ?_
                      have hi := inj1 hf
                      exact r_iret (pc := 149) cx hi rfl dX3_whyTrailerWaits_149
                    · replace hf := ifn h63 hf
                      refine r_iconst (pc := 144) cx dX3_whyTrailerWaits_144 ic_4 ?_
                      refine r_goto (pc := 145) (tgt := 149) cx dX3_whyTrailerWaits_145 (by decide) ?_
                      have hi := inj1 hf
                      exact r_iret (pc := 149) cx hi rfl dX3_whyTrailerWaits_149
                · replace hf := ifn h60 hf
                  refine r_iload_n (pc := 111) cx dX3_whyTrailerWaits_111 0 rfl ?_
                  refine r_bipush (pc := 112) cx dX3_whyTrailerWaits_112 bp_8 ?_
                  refine r_icmp_ne (pc := 114) (tgt := 138) cx dX3_whyTrailerWaits_114 (by decide) (fun h64 => ?_) (fun h64 => ?_)
                  · replace hf := ifn h64 hf
                    refine r_iconst (pc := 138) cx dX3_whyTrailerWaits_138 ic_0 ?_
                    refine r_istore_n (pc := 139) (loc' := [(2, .int (0 : Int32)), (1, .int x2), (0, .ref (q 0))]) cx dX3_whyTrailerWaits_139 rfl (by decide) rfl ?_
                    refine r_iload_n (pc := 140) cx dX3_whyTrailerWaits_140 0 rfl ?_
                    refine r_if_eq (pc := 141) (tgt := 148) cx dX3_whyTrailerWaits_141 (by decide) (fun h65 => ?_) (fun h65 => ?_)
                    · replace hf := ifp h65 hf
                      refine r_iconst (pc := 148) cx dX3_whyTrailerWaits_148 ic_0 ?_
                      have hi := inj1 hf
                      exact r_iret (pc := 149) cx hi rfl dX3_whyTrailerWaits_149
                    · replace hf := ifn h65 hf
                      refine r_iconst (pc := 144) cx dX3_whyTrailerWaits_144 ic_4 ?_
                      refine r_goto (pc := 145) (tgt := 149) cx dX3_whyTrailerWaits_145 (by decide) ?_
                      have hi := inj1 hf
                      exact r_iret (pc := 149) cx hi rfl dX3_whyTrailerWaits_149
                  · replace hf := ifp h64 hf
                    refine r_aload_n (pc := 117) cx dX3_whyTrailerWaits_117 1 rfl ?_
                    refine r_get (pc := 118) cx cf_X3 0 4 rfl (by decide) rfl wd_518 dX3_whyTrailerWaits_118 ?_
                    refine r_get (pc := 121) cx cf_X5 17 12 rfl (by decide) rfl wd_364 dX3_whyTrailerWaits_121 ?_
                    refine r_aload_n (pc := 124) cx dX3_whyTrailerWaits_124 1 rfl ?_
                    refine r_get (pc := 125) cx cf_X3 0 4 rfl (by decide) rfl wd_518 dX3_whyTrailerWaits_125 ?_
                    refine r_get (pc := 128) cx cf_X5 17 11 rfl (by decide) rfl wd_361 dX3_whyTrailerWaits_128 ?_
                    refine r_icmp_lt (pc := 131) (tgt := 138) cx dX3_whyTrailerWaits_131 (by decide) (fun h66 => ?_) (fun h66 => ?_)
                    · replace hf := ifp h66 hf
                      refine r_iconst (pc := 138) cx dX3_whyTrailerWaits_138 ic_0 ?_
                      refine r_istore_n (pc := 139) (loc' := [(2, .int (0 : Int32)), (1, .int x2), (0, .ref (q 0))]) cx dX3_whyTrailerWaits_139 rfl (by decide) rfl ?_
                      refine r_iload_n (pc := 140) cx dX3_whyTrailerWaits_140 0 rfl ?_
                      refine r_if_eq (pc := 141) (tgt := 148) cx dX3_whyTrailerWaits_141 (by decide) (fun h67 => ?_) (fun h67 => ?_)
                      · replace hf := ifp h67 hf
                        refine r_iconst (pc := 148) cx dX3_whyTrailerWaits_148 ic_0 ?_
                        have hi := inj1 hf
                        exact r_iret (pc := 149) cx hi rfl dX3_whyTrailerWaits_149
                      · replace hf := ifn h67 hf
                        refine r_iconst (pc := 144) cx dX3_whyTrailerWaits_144 ic_4 ?_
                        refine r_goto (pc := 145) (tgt := 149) cx dX3_whyTrailerWaits_145 (by decide) ?_
                        have hi := inj1 hf
                        exact r_iret (pc := 149) cx hi rfl dX3_whyTrailerWaits_149
                    · replace hf := ifn h66 hf
                      refine r_iconst (pc := 134) cx dX3_whyTrailerWaits_134 ic_1 ?_
                      refine r_goto (pc := 135) (tgt := 139) cx dX3_whyTrailerWaits_135 (by decide) ?_
                      refine r_istore_n (pc := 139) (loc' := [(2, .int (1 : Int32)), (1, .int x2), (0, .ref (q 0))]) cx dX3_whyTrailerWaits_139 rfl (by decide) rfl ?_
                      refine r_iload_n (pc := 140) cx dX3_whyTrailerWaits_140 0 rfl ?_
                      refine r_if_eq (pc := 141) (tgt := 148) cx dX3_whyTrailerWaits_141 (by decide) (fun h68 => ?_) (fun h68 => ?_)
                      · replace hf := ifp h68 hf
                        refine r_iconst (pc := 148) cx dX3_whyTrailerWaits_148 ic_0 ?_
                        have hi := inj1 hf
                        exact r_iret (pc := 149) cx hi rfl dX3_whyTrailerWaits_149
                      · replace hf := ifn h68 hf
                        refine r_iconst (pc := 144) cx dX3_whyTrailerWaits_144 ic_4 ?_
                        refine r_goto (pc := 145) (tgt := 149) cx dX3_whyTrailerWaits_145 (by decide) ?_
                        have hi := inj1 hf
                        exact r_iret (pc := 149) cx hi rfl dX3_whyTrailerWaits_149
              · replace hf := ifn h59 hf
                refine r_aload_n (pc := 95) cx dX3_whyTrailerWaits_95 1 rfl ?_
                refine r_get (pc := 96) cx cf_X3 0 4 rfl (by decide) rfl wd_518 dX3_whyTrailerWaits_96 ?_
                refine r_get (pc := 99) cx cf_X5 17 10 rfl (by decide) rfl wd_358 dX3_whyTrailerWaits_99 ?_
                refine r_if_eq (pc := 102) (tgt := 134) cx dX3_whyTrailerWaits_102 (by decide) (fun h69 => ?_) (fun h69 => ?_)
                · replace hf := ifp h69 hf
                  refine r_iconst (pc := 134) cx dX3_whyTrailerWaits_134 ic_1 ?_
                  refine r_goto (pc := 135) (tgt := 139) cx dX3_whyTrailerWaits_135 (by decide) ?_
                  refine r_istore_n (pc := 139) (loc' := [(2, .int (1 : Int32)), (1, .int x2), (0, .ref (q 0))]) cx dX3_whyTrailerWaits_139 rfl (by decide) rfl ?_
                  refine r_iload_n (pc := 140) cx dX3_whyTrailerWaits_140 0 rfl ?_
                  refine r_if_eq (pc := 141) (tgt := 148) cx dX3_whyTrailerWaits_141 (by decide) (fun h70 => ?_) (fun h70 => ?_)
                  · replace hf := ifp h70 hf
                    refine r_iconst (pc := 148) cx dX3_whyTrailerWaits_148 ic_0 ?_
                    have hi := inj1 hf
                    exact r_iret (pc := 149) cx hi rfl dX3_whyTrailerWaits_149
                  · replace hf := ifn h70 hf
                    refine r_iconst (pc := 144) cx dX3_whyTrailerWaits_144 ic_4 ?_
                    refine r_goto (pc := 145) (tgt := 149) cx dX3_whyTrailerWaits_145 (by decide) ?_
                    have hi := inj1 hf
                    exact r_iret (pc := 149) cx hi rfl dX3_whyTrailerWaits_149
                · replace hf := ifn h69 hf
                  refine r_iload_n (pc := 105) cx dX3_whyTrailerWaits_105 0 rfl ?_
                  refine r_bipush (pc := 106) cx dX3_whyTrailerWaits_106 bp_7 ?_
                  refine r_icmp_eq (pc := 108) (tgt := 117) cx dX3_whyTrailerWaits_108 (by decide) (fun h71 => ?_) (fun h71 => ?_)
                  · replace hf := ifp h71 hf
                    refine r_aload_n (pc := 117) cx dX3_whyTrailerWaits_117 1 rfl ?_
                    refine r_get (pc := 118) cx cf_X3 0 4 rfl (by decide) rfl wd_518 dX3_whyTrailerWaits_118 ?_
                    refine r_get (pc := 121) cx cf_X5 17 12 rfl (by decide) rfl wd_364 dX3_whyTrailerWaits_121 ?_
                    refine r_aload_n (pc := 124) cx dX3_whyTrailerWaits_124 1 rfl ?_
                    refine r_get (pc := 125) cx cf_X3 0 4 rfl (by decide) rfl wd_518 dX3_whyTrailerWaits_125 ?_
                    refine r_get (pc := 128) cx cf_X5 17 11 rfl (by decide) rfl wd_361 dX3_whyTrailerWaits_128 ?_
                    refine r_icmp_lt (pc := 131) (tgt := 138) cx dX3_whyTrailerWaits_131 (by decide) (fun h72 => ?_) (fun h72 => ?_)
                    · replace hf := ifp h72 hf
                      refine r_iconst (pc := 138) cx dX3_whyTrailerWaits_138 ic_0 ?_
                      refine r_istore_n (pc := 139) (loc' := [(2, .int (0 : Int32)), (1, .int x2), (0, .ref (q 0))]) cx dX3_whyTrailerWaits_139 rfl (by decide) rfl ?_
                      refine r_iload_n (pc := 140) cx dX3_whyTrailerWaits_140 0 rfl ?_
                      refine r_if_eq (pc := 141) (tgt := 148) cx dX3_whyTrailerWaits_141 (by decide) (fun h73 => ?_) (fun h73 => ?_)
                      · replace hf := ifp h73 hf
                        refine r_iconst (pc := 148) cx dX3_whyTrailerWaits_148 ic_0 ?_
                        have hi := inj1 hf
                        exact r_iret (pc := 149) cx hi rfl dX3_whyTrailerWaits_149
                      · replace hf := ifn h73 hf
                        refine r_iconst (pc := 144) cx dX3_whyTrailerWaits_144 ic_4 ?_
                        refine r_goto (pc := 145) (tgt := 149) cx dX3_whyTrailerWaits_145 (by decide) ?_
                        have hi := inj1 hf
                        exact r_iret (pc := 149) cx hi rfl dX3_whyTrailerWaits_149
                    · replace hf := ifn h72 hf
                      refine r_iconst (pc := 134) cx dX3_whyTrailerWaits_134 ic_1 ?_
                      refine r_goto (pc := 135) (tgt := 139) cx dX3_whyTrailerWaits_135 (by decide) ?_
                      refine r_istore_n (pc := 139) (loc' := [(2, .int (1 : Int32)), (1, .int x2), (0, .ref (q 0))]) cx dX3_whyTrailerWaits_139 rfl (by decide) rfl ?_
                      refine r_iload_n (pc := 140) cx dX3_whyTrailerWaits_140 0 rfl ?_
                      refine r_if_eq (pc := 141) (tgt := 148) cx dX3_whyTrailerWaits_141 (by decide) (fun h74 => ?_) (fun h74 => ?_)
                      · replace hf := ifp h74 hf
                        refine r_iconst (pc := 148) cx dX3_whyTrailerWaits_148 ic_0 ?_
                        have hi := inj1 hf
                        exact r_iret (pc := 149) cx hi rfl dX3_whyTrailerWaits_149
                      · replace hf := ifn h74 hf
                        refine r_iconst (pc := 144) cx dX3_whyTrailerWaits_144 ic_4 ?_
                        refine r_goto (pc := 145) (tgt := 149) cx dX3_whyTrailerWaits_145 (by decide) ?_
                        have hi := inj1 hf
                        exact r_iret (pc := 149) cx hi rfl dX3_whyTrailerWaits_149
                  · replace hf := ifn h71 hf
                    refine r_iload_n (pc := 111) cx dX3_whyTrailerWaits_111 0 rfl ?_
                    refine r_bipush (pc := 112) cx dX3_whyTrailerWaits_112 bp_8 ?_
                    refine r_icmp_ne (pc := 114) (tgt := 138) cx dX3_whyTrailerWaits_114 (by decide) (fun h75 => ?_) (fun h75 => ?_)
                    · replace hf := ifn h75 hf
                      refine r_iconst (pc := 138) cx dX3_whyTrailerWaits_138 ic_0 ?_
                      refine r_istore_n (pc := 139) (loc' := [(2, .int (0 : Int32)), (1, .int x2), (0, .ref (q 0))]) cx dX3_whyTrailerWaits_139 rfl (by decide) rfl ?_
                      refine r_iload_n (pc := 140) cx dX3_whyTrailerWaits_140 0 rfl ?_
                      refine r_if_eq (pc := 141) (tgt := 148) cx dX3_whyTrailerWaits_141 (by decide) (fun h76 => ?_) (fun h76 => ?_)
                      · replace hf := ifp h76 hf
                        refine r_iconst (pc := 148) cx dX3_whyTrailerWaits_148 ic_0 ?_
                        have hi := inj1 hf
                        exact r_iret (pc := 149) cx hi rfl dX3_whyTrailerWaits_149
                      · replace hf := ifn h76 hf
                        refine r_iconst (pc := 144) cx dX3_whyTrailerWaits_144 ic_4 ?_
                        refine r_goto (pc := 145) (tgt := 149) cx dX3_whyTrailerWaits_145 (by decide) ?_
                        have hi := inj1 hf
                        exact r_iret (pc := 149) cx hi rfl dX3_whyTrailerWaits_149
                    · replace hf := ifp h75 hf
                      refine r_aload_n (pc := 117) cx dX3_whyTrailerWaits_117 1 rfl ?_
                      refine r_get (pc := 118) cx cf_X3 0 4 rfl (by decide) rfl wd_518 dX3_whyTrailerWaits_118 ?_
                      refine r_get (pc := 121) cx cf_X5 17 12 rfl (by decide) rfl wd_364 dX3_whyTrailerWaits_121 ?_
                      refine r_aload_n (pc := 124) cx dX3_whyTrailerWaits_124 1 rfl ?_
                      refine r_get (pc := 125) cx cf_X3 0 4 rfl (by decide) rfl wd_518 dX3_whyTrailerWaits_125 ?_
                      refine r_get (pc := 128) cx cf_X5 17 11 rfl (by decide) rfl wd_361 dX3_whyTrailerWaits_128 ?_
                      refine r_icmp_lt (pc := 131) (tgt := 138) cx dX3_whyTrailerWaits_131 (by decide) (fun h77 => ?_) (fun h77 => ?_)
                      · replace hf := ifp h77 hf
                        refine r_iconst (pc := 138) cx dX3_whyTrailerWaits_138 ic_0 ?_
                        refine r_istore_n (pc := 139) (loc' := [(2, .int (0 : Int32)), (1, .int x2), (0, .ref (q 0))]) cx dX3_whyTrailerWaits_139 rfl (by decide) rfl ?_
                        refine r_iload_n (pc := 140) cx dX3_whyTrailerWaits_140 0 rfl ?_
                        refine r_if_eq (pc := 141) (tgt := 148) cx dX3_whyTrailerWaits_141 (by decide) (fun h78 => ?_) (fun h78 => ?_)
                        · replace hf := ifp h78 hf
                          refine r_iconst (pc := 148) cx dX3_whyTrailerWaits_148 ic_0 ?_
                          have hi := inj1 hf
                          exact r_iret (pc := 149) cx hi rfl dX3_whyTrailerWaits_149
                        · replace hf := ifn h78 hf
                          refine r_iconst (pc := 144) cx dX3_whyTrailerWaits_144 ic_4 ?_
                          refine r_goto (pc := 145) (tgt := 149) cx dX3_whyTrailerWaits_145 (by decide) ?_
                          have hi := inj1 hf
                          exact r_iret (pc := 149) cx hi rfl dX3_whyTrailerWaits_149
                      · replace hf := ifn h77 hf
                        refine r_iconst (pc := 134) cx dX3_whyTrailerWaits_134 ic_1 ?_
                        refine r_goto (pc := 135) (tgt := 139) cx dX3_whyTrailerWaits_135 (by decide) ?_
                        refine r_istore_n (pc := 139) (loc' := [(2, .int (1 : Int32)), (1, .int x2), (0, .ref (q 0))]) cx dX3_whyTrailerWaits_139 rfl (by decide) rfl ?_
                        refine r_iload_n (pc := 140) cx dX3_whyTrailerWaits_140 0 rfl ?_
                        refine r_if_eq (pc := 141) (tgt := 148) cx dX3_whyTrailerWaits_141 (by decide) (fun h79 => ?_) (fun h79 => ?_)
                        · replace hf := ifp h79 hf
                          refine r_iconst (pc := 148) cx dX3_whyTrailerWaits_148 ic_0 ?_
                          have hi := inj1 hf
                          exact r_iret (pc := 149) cx hi rfl dX3_whyTrailerWaits_149
                        · replace hf := ifn h79 hf
                          refine r_iconst (pc := 144) cx dX3_whyTrailerWaits_144 ic_4 ?_
                          refine r_goto (pc := 145) (tgt := 149) cx dX3_whyTrailerWaits_145 (by decide) ?_
                          have hi := inj1 hf
                          exact r_iret (pc := 149) cx hi rfl dX3_whyTrailerWaits_149
            · replace hf := ifp h58 hf
              refine r_aload_n (pc := 79) cx dX3_whyTrailerWaits_79 1 rfl ?_
              refine r_get (pc := 80) cx cf_X3 0 4 rfl (by decide) rfl wd_518 dX3_whyTrailerWaits_80 ?_
              refine r_get (pc := 83) cx cf_X5 17 8 rfl (by decide) rfl wd_354 dX3_whyTrailerWaits_83 ?_
              refine r_if_eq (pc := 86) (tgt := 134) cx dX3_whyTrailerWaits_86 (by decide) (fun h80 => ?_) (fun h80 => ?_)
              · replace hf := ifp h80 hf
                refine r_iconst (pc := 134) cx dX3_whyTrailerWaits_134 ic_1 ?_
                refine r_goto (pc := 135) (tgt := 139) cx dX3_whyTrailerWaits_135 (by decide) ?_
                refine r_istore_n (pc := 139) (loc' := [(2, .int (1 : Int32)), (1, .int x2), (0, .ref (q 0))]) cx dX3_whyTrailerWaits_139 rfl (by decide) rfl ?_
                refine r_iload_n (pc := 140) cx dX3_whyTrailerWaits_140 0 rfl ?_
                refine r_if_eq (pc := 141) (tgt := 148) cx dX3_whyTrailerWaits_141 (by decide) (fun h81 => ?_) (fun h81 => ?_)
                · replace hf := ifp h81 hf
                  refine r_iconst (pc := 148) cx dX3_whyTrailerWaits_148 ic_0 ?_
                  have hi := inj1 hf
                  exact r_iret (pc := 149) cx hi rfl dX3_whyTrailerWaits_149
                · replace hf := ifn h81 hf
                  refine r_iconst (pc := 144) cx dX3_whyTrailerWaits_144 ic_4 ?_
                  refine r_goto (pc := 145) (tgt := 149) cx dX3_whyTrailerWaits_145 (by decide) ?_
                  have hi := inj1 hf
                  exact r_iret (pc := 149) cx hi rfl dX3_whyTrailerWaits_149
              · replace hf := ifn h80 hf
                refine r_iload_n (pc := 89) cx dX3_whyTrailerWaits_89 0 rfl ?_
                refine r_bipush (pc := 90) cx dX3_whyTrailerWaits_90 bp_15 ?_
                refine r_icmp_lt (pc := 92) (tgt := 105) cx dX3_whyTrailerWaits_92 (by decide) (fun h82 => ?_) (fun h82 => ?_)
                · replace hf := ifp h82 hf
                  refine r_iload_n (pc := 105) cx dX3_whyTrailerWaits_105 0 rfl ?_
                  refine r_bipush (pc := 106) cx dX3_whyTrailerWaits_106 bp_7 ?_
                  refine r_icmp_eq (pc := 108) (tgt := 117) cx dX3_whyTrailerWaits_108 (by decide) (fun h83 => ?_) (fun h83 => ?_)
                  · replace hf := ifp h83 hf
                    refine r_aload_n (pc := 117) cx dX3_whyTrailerWaits_117 1 rfl ?_
                    refine r_get (pc := 118) cx cf_X3 0 4 rfl (by decide) rfl wd_518 dX3_whyTrailerWaits_118 ?_
                    refine r_get (pc := 121) cx cf_X5 17 12 rfl (by decide) rfl wd_364 dX3_whyTrailerWaits_121 ?_
                    refine r_aload_n (pc := 124) cx dX3_whyTrailerWaits_124 1 rfl ?_
                    refine r_get (pc := 125) cx cf_X3 0 4 rfl (by decide) rfl wd_518 dX3_whyTrailerWaits_125 ?_
                    refine r_get (pc := 128) cx cf_X5 17 11 rfl (by decide) rfl wd_361 dX3_whyTrailerWaits_128 ?_
                    refine r_icmp_lt (pc := 131) (tgt := 138) cx dX3_whyTrailerWaits_131 (by decide) (fun h84 => ?_) (fun h84 => ?_)
                    · replace hf := ifp h84 hf
                      refine r_iconst (pc := 138) cx dX3_whyTrailerWaits_138 ic_0 ?_
                      refine r_istore_n (pc := 139) (loc' := [(2, .int (0 : Int32)), (1, .int x2), (0, .ref (q 0))]) cx dX3_whyTrailerWaits_139 rfl (by decide) rfl ?_
                      refine r_iload_n (pc := 140) cx dX3_whyTrailerWaits_140 0 rfl ?_
                      refine r_if_eq (pc := 141) (tgt := 148) cx dX3_whyTrailerWaits_141 (by decide) (fun h85 => ?_) (fun h85 => ?_)
                      · replace hf := ifp h85 hf
                        refine r_iconst (pc := 148) cx dX3_whyTrailerWaits_148 ic_0 ?_
                        have hi := inj1 hf
                        exact r_iret (pc := 149) cx hi rfl dX3_whyTrailerWaits_149
                      · replace hf := ifn h85 hf
                        refine r_iconst (pc := 144) cx dX3_whyTrailerWaits_144 ic_4 ?_
                        refine r_goto (pc := 145) (tgt := 149) cx dX3_whyTrailerWaits_145 (by decide) ?_
                        have hi := inj1 hf
                        exact r_iret (pc := 149) cx hi rfl dX3_whyTrailerWaits_149
                    · replace hf := ifn h84 hf
                      refine r_iconst (pc := 134) cx dX3_whyTrailerWaits_134 ic_1 ?_
                      refine r_goto (pc := 135) (tgt := 139) cx dX3_whyTrailerWaits_135 (by decide) ?_
                      refine r_istore_n (pc := 139) (loc' := [(2, .int (1 : Int32)), (1, .int x2), (0, .ref (q 0))]) cx dX3_whyTrailerWaits_139 rfl (by decide) rfl ?_
                      refine r_iload_n (pc := 140) cx dX3_whyTrailerWaits_140 0 rfl ?_
                      refine r_if_eq (pc := 141) (tgt := 148) cx dX3_whyTrailerWaits_141 (by decide) (fun h86 => ?_) (fun h86 => ?_)
                      · replace hf := ifp h86 hf
                        refine r_iconst (pc := 148) cx dX3_whyTrailerWaits_148 ic_0 ?_
                        have hi := inj1 hf
                        exact r_iret (pc := 149) cx hi rfl dX3_whyTrailerWaits_149
                      · replace hf := ifn h86 hf
                        refine r_iconst (pc := 144) cx dX3_whyTrailerWaits_144 ic_4 ?_
                        refine r_goto (pc := 145) (tgt := 149) cx dX3_whyTrailerWaits_145 (by decide) ?_
                        have hi := inj1 hf
                        exact r_iret (pc := 149) cx hi rfl dX3_whyTrailerWaits_149
                  · replace hf := ifn h83 hf
                    refine r_iload_n (pc := 111) cx dX3_whyTrailerWaits_111 0 rfl ?_
                    refine r_bipush (pc := 112) cx dX3_whyTrailerWaits_112 bp_8 ?_
                    refine r_icmp_ne (pc := 114) (tgt := 138) cx dX3_whyTrailerWaits_114 (by decide) (fun h87 => ?_) (fun h87 => ?_)
                    · replace hf := ifn h87 hf
                      refine r_iconst (pc := 138) cx dX3_whyTrailerWaits_138 ic_0 ?_
                      refine r_istore_n (pc := 139) (loc' := [(2, .int (0 : Int32)), (1, .int x2), (0, .ref (q 0))]) cx dX3_whyTrailerWaits_139 rfl (by decide) rfl ?_
                      refine r_iload_n (pc := 140) cx dX3_whyTrailerWaits_140 0 rfl ?_
                      refine r_if_eq (pc := 141) (tgt := 148) cx dX3_whyTrailerWaits_141 (by decide) (fun h88 => ?_) (fun h88 => ?_)
                      · replace hf := ifp h88 hf
                        refine r_iconst (pc := 148) cx dX3_whyTrailerWaits_148 ic_0 ?_
                        have hi := inj1 hf
                        exact r_iret (pc := 149) cx hi rfl dX3_whyTrailerWaits_149
                      · replace hf := ifn h88 hf
                        refine r_iconst (pc := 144) cx dX3_whyTrailerWaits_144 ic_4 ?_
                        refine r_goto (pc := 145) (tgt := 149) cx dX3_whyTrailerWaits_145 (by decide) ?_
                        have hi := inj1 hf
                        exact r_iret (pc := 149) cx hi rfl dX3_whyTrailerWaits_149
                    · replace hf := ifp h87 hf
                      refine r_aload_n (pc := 117) cx dX3_whyTrailerWaits_117 1 rfl ?_
                      refine r_get (pc := 118) cx cf_X3 0 4 rfl (by decide) rfl wd_518 dX3_whyTrailerWaits_118 ?_
                      refine r_get (pc := 121) cx cf_X5 17 12 rfl (by decide) rfl wd_364 dX3_whyTrailerWaits_121 ?_
                      refine r_aload_n (pc := 124) cx dX3_whyTrailerWaits_124 1 rfl ?_
                      refine r_get (pc := 125) cx cf_X3 0 4 rfl (by decide) rfl wd_518 dX3_whyTrailerWaits_125 ?_
                      refine r_get (pc := 128) cx cf_X5 17 11 rfl (by decide) rfl wd_361 dX3_whyTrailerWaits_128 ?_
                      refine r_icmp_lt (pc := 131) (tgt := 138) cx dX3_whyTrailerWaits_131 (by decide) (fun h89 => ?_) (fun h89 => ?_)
                      · replace hf := ifp h89 hf
                        refine r_iconst (pc := 138) cx dX3_whyTrailerWaits_138 ic_0 ?_
                        refine r_istore_n (pc := 139) (loc' := [(2, .int (0 : Int32)), (1, .int x2), (0, .ref (q 0))]) cx dX3_whyTrailerWaits_139 rfl (by decide) rfl ?_
                        refine r_iload_n (pc := 140) cx dX3_whyTrailerWaits_140 0 rfl ?_
                        refine r_if_eq (pc := 141) (tgt := 148) cx dX3_whyTrailerWaits_141 (by decide) (fun h90 => ?_) (fun h90 => ?_)
                        · replace hf := ifp h90 hf
                          refine r_iconst (pc := 148) cx dX3_whyTrailerWaits_148 ic_0 ?_
                          have hi := inj1 hf
                          exact r_iret (pc := 149) cx hi rfl dX3_whyTrailerWaits_149
                        · replace hf := ifn h90 hf
                          refine r_iconst (pc := 144) cx dX3_whyTrailerWaits_144 ic_4 ?_
                          refine r_goto (pc := 145) (tgt := 149) cx dX3_whyTrailerWaits_145 (by decide) ?_
                          have hi := inj1 hf
                          exact r_iret (pc := 149) cx hi rfl dX3_whyTrailerWaits_149
                      · replace hf := ifn h89 hf
                        refine r_iconst (pc := 134) cx dX3_whyTrailerWaits_134 ic_1 ?_
                        refine r_goto (pc := 135) (tgt := 139) cx dX3_whyTrailerWaits_135 (by decide) ?_
                        refine r_istore_n (pc := 139) (loc' := [(2, .int (1 : Int32)), (1, .int x2), (0, .ref (q 0))]) cx dX3_whyTrailerWaits_139 rfl (by decide) rfl ?_
                        refine r_iload_n (pc := 140) cx dX3_whyTrailerWaits_140 0 rfl ?_
                        refine r_if_eq (pc := 141) (tgt := 148) cx dX3_whyTrailerWaits_141 (by decide) (fun h91 => ?_) (fun h91 => ?_)
                        · replace hf := ifp h91 hf
                          refine r_iconst (pc := 148) cx dX3_whyTrailerWaits_148 ic_0 ?_
                          have hi := inj1 hf
                          exact r_iret (pc := 149) cx hi rfl dX3_whyTrailerWaits_149
                        · replace hf := ifn h91 hf
                          refine r_iconst (pc := 144) cx dX3_whyTrailerWaits_144 ic_4 ?_
                          refine r_goto (pc := 145) (tgt := 149) cx dX3_whyTrailerWaits_145 (by decide) ?_
                          have hi := inj1 hf
                          exact r_iret (pc := 149) cx hi rfl dX3_whyTrailerWaits_149
                · replace hf := ifn h82 hf
                  refine r_aload_n (pc := 95) cx dX3_whyTrailerWaits_95 1 rfl ?_
                  refine r_get (pc := 96) cx cf_X3 0 4 rfl (by decide) rfl wd_518 dX3_whyTrailerWaits_96 ?_
                  refine r_get (pc := 99) cx cf_X5 17 10 rfl (by decide) rfl wd_358 dX3_whyTrailerWaits_99 ?_
                  refine r_if_eq (pc := 102) (tgt := 134) cx dX3_whyTrailerWaits_102 (by decide) (fun h92 => ?_) (fun h92 => ?_)
                  · replace hf := ifp h92 hf
                    refine r_iconst (pc := 134) cx dX3_whyTrailerWaits_134 ic_1 ?_
                    refine r_goto (pc := 135) (tgt := 139) cx dX3_whyTrailerWaits_135 (by decide) ?_
                    refine r_istore_n (pc := 139) (loc' := [(2, .int (1 : Int32)), (1, .int x2), (0, .ref (q 0))]) cx dX3_whyTrailerWaits_139 rfl (by decide) rfl ?_
                    refine r_iload_n (pc := 140) cx dX3_whyTrailerWaits_140 0 rfl ?_
                    refine r_if_eq (pc := 141) (tgt := 148) cx dX3_whyTrailerWaits_141 (by decide) (fun h93 => ?_) (fun h93 => ?_)
                    · replace hf := ifp h93 hf
                      refine r_iconst (pc := 148) cx dX3_whyTrailerWaits_148 ic_0 ?_
                      have hi := inj1 hf
                      exact r_iret (pc := 149) cx hi rfl dX3_whyTrailerWaits_149
                    · replace hf := ifn h93 hf
                      refine r_iconst (pc := 144) cx dX3_whyTrailerWaits_144 ic_4 ?_
                      refine r_goto (pc := 145) (tgt := 149) cx dX3_whyTrailerWaits_145 (by decide) ?_
                      have hi := inj1 hf
                      exact r_iret (pc := 149) cx hi rfl dX3_whyTrailerWaits_149
                  · replace hf := ifn h92 hf
                    refine r_iload_n (pc := 105) cx dX3_whyTrailerWaits_105 0 rfl ?_
                    refine r_bipush (pc := 106) cx dX3_whyTrailerWaits_106 bp_7 ?_
                    refine r_icmp_eq (pc := 108) (tgt := 117) cx dX3_whyTrailerWaits_108 (by decide) (fun h94 => ?_) (fun h94 => ?_)
                    · replace hf := ifp h94 hf
                      refine r_aload_n (pc := 117) cx dX3_whyTrailerWaits_117 1 rfl ?_
                      refine r_get (pc := 118) cx cf_X3 0 4 rfl (by decide) rfl wd_518 dX3_whyTrailerWaits_118 ?_
                      refine r_get (pc := 121) cx cf_X5 17 12 rfl (by decide) rfl wd_364 dX3_whyTrailerWaits_121 ?_
                      refine r_aload_n (pc := 124) cx dX3_whyTrailerWaits_124 1 rfl ?_
                      refine r_get (pc := 125) cx cf_X3 0 4 rfl (by decide) rfl wd_518 dX3_whyTrailerWaits_125 ?_
                      refine r_get (pc := 128) cx cf_X5 17 11 rfl (by decide) rfl wd_361 dX3_whyTrailerWaits_128 ?_
                      refine r_icmp_lt (pc := 131) (tgt := 138) cx dX3_whyTrailerWaits_131 (by decide) (fun h95 => ?_) (fun h95 => ?_)
                      · replace hf := ifp h95 hf
                        refine r_iconst (pc := 138) cx dX3_whyTrailerWaits_138 ic_0 ?_
                        refine r_istore_n (pc := 139) (loc' := [(2, .int (0 : Int32)), (1, .int x2), (0, .ref (q 0))]) cx dX3_whyTrailerWaits_139 rfl (by decide) rfl ?_
                        refine r_iload_n (pc := 140) cx dX3_whyTrailerWaits_140 0 rfl ?_
                        refine r_if_eq (pc := 141) (tgt := 148) cx dX3_whyTrailerWaits_141 (by decide) (fun h96 => ?_) (fun h96 => ?_)
                        · replace hf := ifp h96 hf
                          refine r_iconst (pc := 148) cx dX3_whyTrailerWaits_148 ic_0 ?_
                          have hi := inj1 hf
                          exact r_iret (pc := 149) cx hi rfl dX3_whyTrailerWaits_149
                        · replace hf := ifn h96 hf
                          refine r_iconst (pc := 144) cx dX3_whyTrailerWaits_144 ic_4 ?_
                          refine r_goto (pc := 145) (tgt := 149) cx dX3_whyTrailerWaits_145 (by decide) ?_
                          have hi := inj1 hf
                          exact r_iret (pc := 149) cx hi rfl dX3_whyTrailerWaits_149
                      · replace hf := ifn h95 hf
                        refine r_iconst (pc := 134) cx dX3_whyTrailerWaits_134 ic_1 ?_
                        refine r_goto (pc := 135) (tgt := 139) cx dX3_whyTrailerWaits_135 (by decide) ?_
                        refine r_istore_n (pc := 139) (loc' := [(2, .int (1 : Int32)), (1, .int x2), (0, .ref (q 0))]) cx dX3_whyTrailerWaits_139 rfl (by decide) rfl ?_
                        refine r_iload_n (pc := 140) cx dX3_whyTrailerWaits_140 0 rfl ?_
                        refine r_if_eq (pc := 141) (tgt := 148) cx dX3_whyTrailerWaits_141 (by decide) (fun h97 => ?_) (fun h97 => ?_)
                        · replace hf := ifp h97 hf
                          refine r_iconst (pc := 148) cx dX3_whyTrailerWaits_148 ic_0 ?_
                          have hi := inj1 hf
                          exact r_iret (pc := 149) cx hi rfl dX3_whyTrailerWaits_149
                        · replace hf := ifn h97 hf
                          refine r_iconst (pc := 144) cx dX3_whyTrailerWaits_144 ic_4 ?_
                          refine r_goto (pc := 145) (tgt := 149) cx dX3_whyTrailerWaits_145 (by decide) ?_
                          have hi := inj1 hf
                          exact r_iret (pc := 149) cx hi rfl dX3_whyTrailerWaits_149
                    · replace hf := ifn h94 hf
                      refine r_iload_n (pc := 111) cx dX3_whyTrailerWaits_111 0 rfl ?_
                      refine r_bipush (pc := 112) cx dX3_whyTrailerWaits_112 bp_8 ?_
                      refine r_icmp_ne (pc := 114) (tgt := 138) cx dX3_whyTrailerWaits_114 (by decide) (fun h98 => ?_) (fun h98 => ?_)
                      · replace hf := ifn h98 hf
                        refine r_iconst (pc := 138) cx dX3_whyTrailerWaits_138 ic_0 ?_
                        refine r_istore_n (pc := 139) (loc' := [(2, .int (0 : Int32)), (1, .int x2), (0, .ref (q 0))]) cx dX3_whyTrailerWaits_139 rfl (by decide) rfl ?_
                        refine r_iload_n (pc := 140) cx dX3_whyTrailerWaits_140 0 rfl ?_
                        refine r_if_eq (pc := 141) (tgt := 148) cx dX3_whyTrailerWaits_141 (by decide) (fun h99 => ?_) (fun h99 => ?_)
                        · replace hf := ifp h99 hf
                          refine r_iconst (pc := 148) cx dX3_whyTrailerWaits_148 ic_0 ?_
                          have hi := inj1 hf
                          exact r_iret (pc := 149) cx hi rfl dX3_whyTrailerWaits_149
                        · replace hf := ifn h99 hf
                          refine r_iconst (pc := 144) cx dX3_whyTrailerWaits_144 ic_4 ?_
                          refine r_goto (pc := 145) (tgt := 149) cx dX3_whyTrailerWaits_145 (by decide) ?_
                          have hi := inj1 hf
                          exact r_iret (pc := 149) cx hi rfl dX3_whyTrailerWaits_149
                      · replace hf := ifp h98 hf
                        refine r_aload_n (pc := 117) cx dX3_whyTrailerWaits_117 1 rfl ?_
                        refine r_get (pc := 118) cx cf_X3 0 4 rfl (by decide) rfl wd_518 dX3_whyTrailerWaits_118 ?_
                        refine r_get (pc := 121) cx cf_X5 17 12 rfl (by decide) rfl wd_364 dX3_whyTrailerWaits_121 ?_
                        refine r_aload_n (pc := 124) cx dX3_whyTrailerWaits_124 1 rfl ?_
                        refine r_get (pc := 125) cx cf_X3 0 4 rfl (by decide) rfl wd_518 dX3_whyTrailerWaits_125 ?_
                        refine r_get (pc := 128) cx cf_X5 17 11 rfl (by decide) rfl wd_361 dX3_whyTrailerWaits_128 ?_
                        refine r_icmp_lt (pc := 131) (tgt := 138) cx dX3_whyTrailerWaits_131 (by decide) (fun h100 => ?_) (fun h100 => ?_)
                        · replace hf := ifp h100 hf
                          refine r_iconst (pc := 138) cx dX3_whyTrailerWaits_138 ic_0 ?_
                          refine r_istore_n (pc := 139) (loc' := [(2, .int (0 : Int32)), (1, .int x2), (0, .ref (q 0))]) cx dX3_whyTrailerWaits_139 rfl (by decide) rfl ?_
                          refine r_iload_n (pc := 140) cx dX3_whyTrailerWaits_140 0 rfl ?_
                          refine r_if_eq (pc := 141) (tgt := 148) cx dX3_whyTrailerWaits_141 (by decide) (fun h101 => ?_) (fun h101 => ?_)
                          · replace hf := ifp h101 hf
                            refine r_iconst (pc := 148) cx dX3_whyTrailerWaits_148 ic_0 ?_
                            have hi := inj1 hf
                            exact r_iret (pc := 149) cx hi rfl dX3_whyTrailerWaits_149
                          · replace hf := ifn h101 hf
                            refine r_iconst (pc := 144) cx dX3_whyTrailerWaits_144 ic_4 ?_
                            refine r_goto (pc := 145) (tgt := 149) cx dX3_whyTrailerWaits_145 (by decide) ?_
                            have hi := inj1 hf
                            exact r_iret (pc := 149) cx hi rfl dX3_whyTrailerWaits_149
                        · replace hf := ifn h100 hf
                          refine r_iconst (pc := 134) cx dX3_whyTrailerWaits_134 ic_1 ?_
                          refine r_goto (pc := 135) (tgt := 139) cx dX3_whyTrailerWaits_135 (by decide) ?_
                          refine r_istore_n (pc := 139) (loc' := [(2, .int (1 : Int32)), (1, .int x2), (0, .ref (q 0))]) cx dX3_whyTrailerWaits_139 rfl (by decide) rfl ?_
                          refine r_iload_n (pc := 140) cx dX3_whyTrailerWaits_140 0 rfl ?_
                          refine r_if_eq (pc := 141) (tgt := 148) cx dX3_whyTrailerWaits_141 (by decide) (fun h102 => ?_) (fun h102 => ?_)
                          · replace hf := ifp h102 hf
                            refine r_iconst (pc := 148) cx dX3_whyTrailerWaits_148 ic_0 ?_
                            have hi := inj1 hf
                            exact r_iret (pc := 149) cx hi rfl dX3_whyTrailerWaits_149
                          · replace hf := ifn h102 hf
                            refine r_iconst (pc := 144) cx dX3_whyTrailerWaits_144 ic_4 ?_
                            refine r_goto (pc := 145) (tgt := 149) cx dX3_whyTrailerWaits_145 (by decide) ?_
                            have hi := inj1 hf
                            exact r_iret (pc := 149) cx hi rfl dX3_whyTrailerWaits_149
          · replace hf := ifp h57 hf
            refine r_iconst (pc := 71) cx dX3_whyTrailerWaits_71 ic_3 ?_
            have hi := inj1 hf
            exact r_iret (pc := 72) cx hi rfl dX3_whyTrailerWaits_72
    · replace hf := ifp h3 hf
      refine r_iconst (pc := 41) cx dX3_whyTrailerWaits_41 ic_2 ?_
      have hi := inj1 hf
      exact r_iret (pc := 42) cx hi rfl dX3_whyTrailerWaits_42
  · replace hf := ifn h1 hf
    refine r_iconst (pc := 16) cx dX3_whyTrailerWaits_16 ic_1 ?_
    have hi := inj1 hf
    exact r_iret (pc := 17) cx hi rfl dX3_whyTrailerWaits_17
theorem yv_X3_whyTrailerWaits : YV yX3_whyTrailerWaits cX3_whyTrailerWaits 3 (some .int) 0 := ⟨⟨by decide +kernel, by decide +kernel, by decide +kernel⟩, wd_721, wd_95, wd_719, wd_720⟩
