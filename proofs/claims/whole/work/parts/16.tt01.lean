def f_TT_real (tt : T_TT) (pa : T_Pa) (a1 : Int32) (a2 : Int32) : Option (Int32) :=
  (if a1 < (0 : Int32) then (some (0 : Int32)) else (if (1 : Int32) < a1 then (some (0 : Int32)) else (if a2 < (0 : Int32) then (some (0 : Int32)) else (if a2 ≤ (3 : Int32) then (if a1 = (0 : Int32) then (if ix a2 4 then (some ((St_floats (Pa_leader pa)) a2.toNatClampNeg)) else none) else (if ix a2 4 then (some ((St_floats (Pa_trailer pa)) a2.toNatClampNeg)) else none)) else (some (0 : Int32))))))
abbrev rm_TT_real : Room := { frames := 1, cells := 0, slots := 0, locals := 21 }
set_option maxRecDepth 100000 in
set_option maxHeartbeats 4000000 in
theorem m_TT_real (l : Launch) (D : va_G) (K : Nat → ClassId) (qo : Nat → Nat) (xtt_reader : Nat) (xtt_image : Nat) (xtt_trial : Nat) (xtt_alone : Nat) (xtt_program : Nat) (xtt_draft : Nat) (tt : T_TT) (q : Nat → Nat) (xpa_program : Nat) (pa : T_Pa) (a1 : Int32) (a2 : Int32) {r_ : Int32} (hf : f_TT_real tt pa a1 a2 = some r_) : MI l yX9_real cX9_real 3 (some .int) rm_TT_real D K [.ref (qo 0), .int a1, .int a2] (cl_TT K qo xtt_reader (q 0) xtt_image xtt_trial xtt_alone xtt_program xtt_draft tt ++ (cl_Pa K q xpa_program pa)) r_ (cl_TT K qo xtt_reader (q 0) xtt_image xtt_trial xtt_alone xtt_program xtt_draft tt ++ (cl_Pa K q xpa_program pa)) := by
  refine MI_of (loc0 := [(0, .ref (qo 0)), (1, .int a1), (2, .int a2)]) (by decide +kernel) rfl (Nat.le_of_ble_eq_true rfl) ?_
  intro p e s m args below meth c A cx
  unfold f_TT_real at hf
  refine r_ws (ws' := [((qo 0), ob 8 [.ref xtt_reader, .ref (q 0), .ref xtt_image, .ref xtt_trial, .ref xtt_alone, .ref xtt_program, .ref xtt_draft, .int (TT_kept tt)]), ((q 0), ob 2 [.ref (q 1), .ref (q 2), .ref (q 7), .ref (q 12), .ref (q 17), .ref (q 25), .ref (q 31), .ref xpa_program, .int (Pa_done pa), .int (Pa_down pa)]), ((q 1), aI K 8 (Pa_rules pa)), ((q 2), ob 6 [.ref (q 3), .ref (q 4), .ref (q 5), .ref (q 6), .int (St_place (Pa_leader pa)), .int (St_steps (Pa_leader pa))]), ((q 3), aI K 8 (St_registers (Pa_leader pa))), ((q 4), aI K 4 (St_floats (Pa_leader pa))), ((q 5), aI K 8 (St_stuckMask (Pa_leader pa))), ((q 6), aI K 8 (St_stuckOnes (Pa_leader pa))), ((q 7), ob 6 [.ref (q 8), .ref (q 9), .ref (q 10), .ref (q 11), .int (St_place (Pa_trailer pa)), .int (St_steps (Pa_trailer pa))]), ((q 8), aI K 8 (St_registers (Pa_trailer pa))), ((q 9), aI K 4 (St_floats (Pa_trailer pa))), ((q 10), aI K 8 (St_stuckMask (Pa_trailer pa))), ((q 11), aI K 8 (St_stuckOnes (Pa_trailer pa))), ((q 12), ob 6 [.ref (q 13), .ref (q 14), .ref (q 15), .ref (q 16), .int (St_place (Pa_point pa)), .int (St_steps (Pa_point pa))]), ((q 13), aI K 8 (St_registers (Pa_point pa))), ((q 14), aI K 4 (St_floats (Pa_point pa))), ((q 15), aI K 8 (St_stuckMask (Pa_point pa))), ((q 16), aI K 8 (St_stuckOnes (Pa_point pa))), ((q 17), ob 4 [.ref (q 18), .ref (q 19), .ref (q 20), .ref (q 21), .ref (q 22), .ref (q 23), .ref (q 24), .int (Qu_firstLoad (Pa_queues pa)), .int (Qu_loads (Pa_queues pa)), .int (Qu_firstBranch (Pa_queues pa)), .int (Qu_branches (Pa_queues pa)), .int (Qu_held (Pa_queues pa)), .int (Qu_comparedHeld (Pa_queues pa))]), ((q 18), aI K 8 (Qu_loadAddress (Pa_queues pa))), ((q 19), aI K 8 (Qu_loadWord (Pa_queues pa))), ((q 20), aI K 8 (Qu_branch (Pa_queues pa))), ((q 21), aI K 8 (Qu_heldAddress (Pa_queues pa))), ((q 22), aI K 8 (Qu_heldWord (Pa_queues pa))), ((q 23), aI K 8 (Qu_besideAddress (Pa_queues pa))), ((q 24), aI K 8 (Qu_besideWord (Pa_queues pa))), ((q 25), ob 1 [.ref (q 26), .ref (q 27), .ref (q 28), .ref (q 29), .ref (q 30), .int (Ou_stores (Pa_outside pa)), .int (Ou_outputs (Pa_outside pa))]), ((q 26), aI K 32 (Ou_memory (Pa_outside pa))), ((q 27), aI K 40 (Ou_output (Pa_outside pa))), ((q 28), aI K 16 (Ou_leftAddress (Pa_outside pa))), ((q 29), aI K 16 (Ou_leftWord (Pa_outside pa))), ((q 30), aI K 16 (Ou_leftPoint (Pa_outside pa))), ((q 31), ob 7 [.ref (q 32), .ref (q 33), .ref (q 34), .ref (q 35), .int (Ta_turns (Pa_tally pa)), .int (Ta_points (Pa_tally pa)), .int (Ta_alarms (Pa_tally pa)), .int (Ta_alarmsSincePoint (Pa_tally pa)), .int (Ta_greatestAhead (Pa_tally pa)), .int (Ta_aheadSum (Pa_tally pa)), .int (Ta_leaderTurns (Pa_tally pa)), .int (Ta_trailerTurns (Pa_tally pa)), .int (Ta_comparedSteps (Pa_tally pa))]), ((q 32), aI K 8 (Ta_alarmSort (Pa_tally pa))), ((q 33), aI K 8 (Ta_alarmTurn (Pa_tally pa))), ((q 34), aI K 8 (Ta_alarmLeaderSteps (Pa_tally pa))), ((q 35), aI K 8 (Ta_alarmTrailerSteps (Pa_tally pa)))]) rfl ?_
  refine r_iload_n (pc := 0) cx dX9_real_0 1 rfl ?_
  refine r_if_lt (pc := 1) (tgt := 18) cx dX9_real_1 (by decide) (fun h1 => ?_) (fun h1 => ?_)
  · have hf := ifp h1 hf
    refine r_iconst (pc := 18) cx dX9_real_18 ic_0 ?_
    cases hf
    exact r_iret (pc := 19) cx rfl rfl dX9_real_19
  · have hf := ifn h1 hf
    refine r_iload_n (pc := 4) cx dX9_real_4 1 rfl ?_
    refine r_iconst (pc := 5) cx dX9_real_5 ic_1 ?_
    refine r_icmp_gt (pc := 6) (tgt := 18) cx dX9_real_6 (by decide) (fun h2 => ?_) (fun h2 => ?_)
    · have hf := ifp h2 hf
      refine r_iconst (pc := 18) cx dX9_real_18 ic_0 ?_
      cases hf
      exact r_iret (pc := 19) cx rfl rfl dX9_real_19
    · have hf := ifn h2 hf
      refine r_iload_n (pc := 9) cx dX9_real_9 2 rfl ?_
      refine r_if_lt (pc := 10) (tgt := 18) cx dX9_real_10 (by decide) (fun h3 => ?_) (fun h3 => ?_)
      · have hf := ifp h3 hf
        refine r_iconst (pc := 18) cx dX9_real_18 ic_0 ?_
        cases hf
        exact r_iret (pc := 19) cx rfl rfl dX9_real_19
      · have hf := ifn h3 hf
        refine r_iload_n (pc := 13) cx dX9_real_13 2 rfl ?_
        refine r_iconst (pc := 14) cx dX9_real_14 ic_3 ?_
        refine r_icmp_le (pc := 15) (tgt := 20) cx dX9_real_15 (by decide) (fun h4 => ?_) (fun h4 => ?_)
        · have hf := ifp h4 hf
          refine r_aload_n (pc := 20) cx dX9_real_20 0 rfl ?_
          refine r_get (pc := 21) cx cf_X9 0 1 rfl (by decide) rfl wd_576 dX9_real_21 ?_
          refine r_iload_n (pc := 24) cx dX9_real_24 1 rfl ?_
          by_cases h5 : a1 = (0 : Int32)
          · have hf := ifp h5 hf
            refine r_Vr (pc := 25) (ws' := [((qo 0), ob 8 [.ref xtt_reader, .ref (q 0), .ref xtt_image, .ref xtt_trial, .ref xtt_alone, .ref xtt_program, .ref xtt_draft, .int (TT_kept tt)]), ((q 0), ob 2 [.ref (q 1), .ref (q 2), .ref (q 7), .ref (q 12), .ref (q 17), .ref (q 25), .ref (q 31), .ref xpa_program, .int (Pa_done pa), .int (Pa_down pa)]), ((q 1), aI K 8 (Pa_rules pa)), ((q 2), ob 6 [.ref (q 3), .ref (q 4), .ref (q 5), .ref (q 6), .int (St_place (Pa_leader pa)), .int (St_steps (Pa_leader pa))]), ((q 3), aI K 8 (St_registers (Pa_leader pa))), ((q 4), aI K 4 (St_floats (Pa_leader pa))), ((q 5), aI K 8 (St_stuckMask (Pa_leader pa))), ((q 6), aI K 8 (St_stuckOnes (Pa_leader pa))), ((q 7), ob 6 [.ref (q 8), .ref (q 9), .ref (q 10), .ref (q 11), .int (St_place (Pa_trailer pa)), .int (St_steps (Pa_trailer pa))]), ((q 8), aI K 8 (St_registers (Pa_trailer pa))), ((q 9), aI K 4 (St_floats (Pa_trailer pa))), ((q 10), aI K 8 (St_stuckMask (Pa_trailer pa))), ((q 11), aI K 8 (St_stuckOnes (Pa_trailer pa))), ((q 12), ob 6 [.ref (q 13), .ref (q 14), .ref (q 15), .ref (q 16), .int (St_place (Pa_point pa)), .int (St_steps (Pa_point pa))]), ((q 13), aI K 8 (St_registers (Pa_point pa))), ((q 14), aI K 4 (St_floats (Pa_point pa))), ((q 15), aI K 8 (St_stuckMask (Pa_point pa))), ((q 16), aI K 8 (St_stuckOnes (Pa_point pa))), ((q 17), ob 4 [.ref (q 18), .ref (q 19), .ref (q 20), .ref (q 21), .ref (q 22), .ref (q 23), .ref (q 24), .int (Qu_firstLoad (Pa_queues pa)), .int (Qu_loads (Pa_queues pa)), .int (Qu_firstBranch (Pa_queues pa)), .int (Qu_branches (Pa_queues pa)), .int (Qu_held (Pa_queues pa)), .int (Qu_comparedHeld (Pa_queues pa))]), ((q 18), aI K 8 (Qu_loadAddress (Pa_queues pa))), ((q 19), aI K 8 (Qu_loadWord (Pa_queues pa))), ((q 20), aI K 8 (Qu_branch (Pa_queues pa))), ((q 21), aI K 8 (Qu_heldAddress (Pa_queues pa))), ((q 22), aI K 8 (Qu_heldWord (Pa_queues pa))), ((q 23), aI K 8 (Qu_besideAddress (Pa_queues pa))), ((q 24), aI K 8 (Qu_besideWord (Pa_queues pa))), ((q 25), ob 1 [.ref (q 26), .ref (q 27), .ref (q 28), .ref (q 29), .ref (q 30), .int (Ou_stores (Pa_outside pa)), .int (Ou_outputs (Pa_outside pa))]), ((q 26), aI K 32 (Ou_memory (Pa_outside pa))), ((q 27), aI K 40 (Ou_output (Pa_outside pa))), ((q 28), aI K 16 (Ou_leftAddress (Pa_outside pa))), ((q 29), aI K 16 (Ou_leftWord (Pa_outside pa))), ((q 30), aI K 16 (Ou_leftPoint (Pa_outside pa))), ((q 31), ob 7 [.ref (q 32), .ref (q 33), .ref (q 34), .ref (q 35), .int (Ta_turns (Pa_tally pa)), .int (Ta_points (Pa_tally pa)), .int (Ta_alarms (Pa_tally pa)), .int (Ta_alarmsSincePoint (Pa_tally pa)), .int (Ta_greatestAhead (Pa_tally pa)), .int (Ta_aheadSum (Pa_tally pa)), .int (Ta_leaderTurns (Pa_tally pa)), .int (Ta_trailerTurns (Pa_tally pa)), .int (Ta_comparedSteps (Pa_tally pa))]), ((q 32), aI K 8 (Ta_alarmSort (Pa_tally pa))), ((q 33), aI K 8 (Ta_alarmTurn (Pa_tally pa))), ((q 34), aI K 8 (Ta_alarmLeaderSteps (Pa_tally pa))), ((q 35), aI K 8 (Ta_alarmTrailerSteps (Pa_tally pa)))]) (nn := 36) cx [.int a1] [] (m_Pa_strand_0 l D K q xpa_program pa a1 h5) yv_X3_strand wd_952 ⟨rfl, rfl⟩ (by decide) (fr_k (fr_s (j := 0) rfl rfl rfl (fr_s (j := 1) rfl rfl rfl (fr_s (j := 2) rfl rfl rfl (fr_s (j := 3) rfl rfl rfl (fr_s (j := 4) rfl rfl rfl (fr_s (j := 5) rfl rfl rfl (fr_s (j := 6) rfl rfl rfl (fr_s (j := 7) rfl rfl rfl (fr_s (j := 8) rfl rfl rfl (fr_s (j := 9) rfl rfl rfl (fr_s (j := 10) rfl rfl rfl (fr_s (j := 11) rfl rfl rfl (fr_s (j := 12) rfl rfl rfl (fr_s (j := 13) rfl rfl rfl (fr_s (j := 14) rfl rfl rfl (fr_s (j := 15) rfl rfl rfl (fr_s (j := 16) rfl rfl rfl (fr_s (j := 17) rfl rfl rfl (fr_s (j := 18) rfl rfl rfl (fr_s (j := 19) rfl rfl rfl (fr_s (j := 20) rfl rfl rfl (fr_s (j := 21) rfl rfl rfl (fr_s (j := 22) rfl rfl rfl (fr_s (j := 23) rfl rfl rfl (fr_s (j := 24) rfl rfl rfl (fr_s (j := 25) rfl rfl rfl (fr_s (j := 26) rfl rfl rfl (fr_s (j := 27) rfl rfl rfl (fr_s (j := 28) rfl rfl rfl (fr_s (j := 29) rfl rfl rfl (fr_s (j := 30) rfl rfl rfl (fr_s (j := 31) rfl rfl rfl (fr_s (j := 32) rfl rfl rfl (fr_s (j := 33) rfl rfl rfl (fr_s (j := 34) rfl rfl rfl (fr_s (j := 35) rfl rfl rfl (fr_n)))))))))))))))))))))))))))))))))))))) rfl (by decide) 1 rfl rfl rfl (Nat.le_of_ble_eq_true rfl) dX9_real_25 ?_
            refine r_get (pc := 28) cx cf_X7 3 1 rfl (by decide) rfl wd_314 dX9_real_28 ?_
            refine r_iload_n (pc := 31) cx dX9_real_31 2 rfl ?_
            obtain ⟨h6, hf⟩ := chk_of hf
            refine r_iald (pc := 32) cx 5 rfl h6 dX9_real_32 ?_
            cases hf
            exact r_iret (pc := 33) cx rfl rfl dX9_real_33
          · have hf := ifn h5 hf
            refine r_Vr (pc := 25) (ws' := [((qo 0), ob 8 [.ref xtt_reader, .ref (q 0), .ref xtt_image, .ref xtt_trial, .ref xtt_alone, .ref xtt_program, .ref xtt_draft, .int (TT_kept tt)]), ((q 0), ob 2 [.ref (q 1), .ref (q 2), .ref (q 7), .ref (q 12), .ref (q 17), .ref (q 25), .ref (q 31), .ref xpa_program, .int (Pa_done pa), .int (Pa_down pa)]), ((q 1), aI K 8 (Pa_rules pa)), ((q 2), ob 6 [.ref (q 3), .ref (q 4), .ref (q 5), .ref (q 6), .int (St_place (Pa_leader pa)), .int (St_steps (Pa_leader pa))]), ((q 3), aI K 8 (St_registers (Pa_leader pa))), ((q 4), aI K 4 (St_floats (Pa_leader pa))), ((q 5), aI K 8 (St_stuckMask (Pa_leader pa))), ((q 6), aI K 8 (St_stuckOnes (Pa_leader pa))), ((q 7), ob 6 [.ref (q 8), .ref (q 9), .ref (q 10), .ref (q 11), .int (St_place (Pa_trailer pa)), .int (St_steps (Pa_trailer pa))]), ((q 8), aI K 8 (St_registers (Pa_trailer pa))), ((q 9), aI K 4 (St_floats (Pa_trailer pa))), ((q 10), aI K 8 (St_stuckMask (Pa_trailer pa))), ((q 11), aI K 8 (St_stuckOnes (Pa_trailer pa))), ((q 12), ob 6 [.ref (q 13), .ref (q 14), .ref (q 15), .ref (q 16), .int (St_place (Pa_point pa)), .int (St_steps (Pa_point pa))]), ((q 13), aI K 8 (St_registers (Pa_point pa))), ((q 14), aI K 4 (St_floats (Pa_point pa))), ((q 15), aI K 8 (St_stuckMask (Pa_point pa))), ((q 16), aI K 8 (St_stuckOnes (Pa_point pa))), ((q 17), ob 4 [.ref (q 18), .ref (q 19), .ref (q 20), .ref (q 21), .ref (q 22), .ref (q 23), .ref (q 24), .int (Qu_firstLoad (Pa_queues pa)), .int (Qu_loads (Pa_queues pa)), .int (Qu_firstBranch (Pa_queues pa)), .int (Qu_branches (Pa_queues pa)), .int (Qu_held (Pa_queues pa)), .int (Qu_comparedHeld (Pa_queues pa))]), ((q 18), aI K 8 (Qu_loadAddress (Pa_queues pa))), ((q 19), aI K 8 (Qu_loadWord (Pa_queues pa))), ((q 20), aI K 8 (Qu_branch (Pa_queues pa))), ((q 21), aI K 8 (Qu_heldAddress (Pa_queues pa))), ((q 22), aI K 8 (Qu_heldWord (Pa_queues pa))), ((q 23), aI K 8 (Qu_besideAddress (Pa_queues pa))), ((q 24), aI K 8 (Qu_besideWord (Pa_queues pa))), ((q 25), ob 1 [.ref (q 26), .ref (q 27), .ref (q 28), .ref (q 29), .ref (q 30), .int (Ou_stores (Pa_outside pa)), .int (Ou_outputs (Pa_outside pa))]), ((q 26), aI K 32 (Ou_memory (Pa_outside pa))), ((q 27), aI K 40 (Ou_output (Pa_outside pa))), ((q 28), aI K 16 (Ou_leftAddress (Pa_outside pa))), ((q 29), aI K 16 (Ou_leftWord (Pa_outside pa))), ((q 30), aI K 16 (Ou_leftPoint (Pa_outside pa))), ((q 31), ob 7 [.ref (q 32), .ref (q 33), .ref (q 34), .ref (q 35), .int (Ta_turns (Pa_tally pa)), .int (Ta_points (Pa_tally pa)), .int (Ta_alarms (Pa_tally pa)), .int (Ta_alarmsSincePoint (Pa_tally pa)), .int (Ta_greatestAhead (Pa_tally pa)), .int (Ta_aheadSum (Pa_tally pa)), .int (Ta_leaderTurns (Pa_tally pa)), .int (Ta_trailerTurns (Pa_tally pa)), .int (Ta_comparedSteps (Pa_tally pa))]), ((q 32), aI K 8 (Ta_alarmSort (Pa_tally pa))), ((q 33), aI K 8 (Ta_alarmTurn (Pa_tally pa))), ((q 34), aI K 8 (Ta_alarmLeaderSteps (Pa_tally pa))), ((q 35), aI K 8 (Ta_alarmTrailerSteps (Pa_tally pa)))]) (nn := 36) cx [.int a1] [] (m_Pa_strand_1 l D K q xpa_program pa a1 h5) yv_X3_strand wd_952 ⟨rfl, rfl⟩ (by decide) (fr_k (fr_s (j := 0) rfl rfl rfl (fr_s (j := 1) rfl rfl rfl (fr_s (j := 2) rfl rfl rfl (fr_s (j := 3) rfl rfl rfl (fr_s (j := 4) rfl rfl rfl (fr_s (j := 5) rfl rfl rfl (fr_s (j := 6) rfl rfl rfl (fr_s (j := 7) rfl rfl rfl (fr_s (j := 8) rfl rfl rfl (fr_s (j := 9) rfl rfl rfl (fr_s (j := 10) rfl rfl rfl (fr_s (j := 11) rfl rfl rfl (fr_s (j := 12) rfl rfl rfl (fr_s (j := 13) rfl rfl rfl (fr_s (j := 14) rfl rfl rfl (fr_s (j := 15) rfl rfl rfl (fr_s (j := 16) rfl rfl rfl (fr_s (j := 17) rfl rfl rfl (fr_s (j := 18) rfl rfl rfl (fr_s (j := 19) rfl rfl rfl (fr_s (j := 20) rfl rfl rfl (fr_s (j := 21) rfl rfl rfl (fr_s (j := 22) rfl rfl rfl (fr_s (j := 23) rfl rfl rfl (fr_s (j := 24) rfl rfl rfl (fr_s (j := 25) rfl rfl rfl (fr_s (j := 26) rfl rfl rfl (fr_s (j := 27) rfl rfl rfl (fr_s (j := 28) rfl rfl rfl (fr_s (j := 29) rfl rfl rfl (fr_s (j := 30) rfl rfl rfl (fr_s (j := 31) rfl rfl rfl (fr_s (j := 32) rfl rfl rfl (fr_s (j := 33) rfl rfl rfl (fr_s (j := 34) rfl rfl rfl (fr_s (j := 35) rfl rfl rfl (fr_n)))))))))))))))))))))))))))))))))))))) rfl (by decide) 1 rfl rfl rfl (Nat.le_of_ble_eq_true rfl) dX9_real_25 ?_
            refine r_get (pc := 28) cx cf_X7 8 1 rfl (by decide) rfl wd_314 dX9_real_28 ?_
            refine r_iload_n (pc := 31) cx dX9_real_31 2 rfl ?_
            obtain ⟨h7, hf⟩ := chk_of hf
            refine r_iald (pc := 32) cx 10 rfl h7 dX9_real_32 ?_
            cases hf
            exact r_iret (pc := 33) cx rfl rfl dX9_real_33
        · have hf := ifn h4 hf
          refine r_iconst (pc := 18) cx dX9_real_18 ic_0 ?_
          cases hf
          exact r_iret (pc := 19) cx rfl rfl dX9_real_19
theorem yv_X9_real : YV yX9_real cX9_real 3 (some .int) 2 := ⟨⟨by decide +kernel, by decide +kernel, by decide +kernel⟩, wd_956, wd_88, wd_954, wd_955⟩
def f_TT_memory (tt : T_TT) (pa : T_Pa) (a1 : Int32) : Option (Int32) :=
  (if a1 < (0 : Int32) then (some (0 : Int32)) else (if a1 ≤ (31 : Int32) then (if ix a1 32 then (some ((Ou_memory (Pa_outside pa)) a1.toNatClampNeg)) else none) else (some (0 : Int32))))
abbrev rm_TT_memory : Room := { frames := 0, cells := 0, slots := 0, locals := 0 }
set_option maxRecDepth 100000 in
set_option maxHeartbeats 4000000 in
theorem m_TT_memory (l : Launch) (D : va_G) (K : Nat → ClassId) (qo : Nat → Nat) (xtt_reader : Nat) (xtt_image : Nat) (xtt_trial : Nat) (xtt_alone : Nat) (xtt_program : Nat) (xtt_draft : Nat) (tt : T_TT) (q : Nat → Nat) (xpa_program : Nat) (pa : T_Pa) (a1 : Int32) {r_ : Int32} (hf : f_TT_memory tt pa a1 = some r_) : MI l yX9_memory cX9_memory 2 (some .int) rm_TT_memory D K [.ref (qo 0), .int a1] (cl_TT K qo xtt_reader (q 0) xtt_image xtt_trial xtt_alone xtt_program xtt_draft tt ++ (cl_Pa K q xpa_program pa)) r_ (cl_TT K qo xtt_reader (q 0) xtt_image xtt_trial xtt_alone xtt_program xtt_draft tt ++ (cl_Pa K q xpa_program pa)) := by
  refine MI_of (loc0 := [(0, .ref (qo 0)), (1, .int a1)]) (by decide +kernel) rfl (Nat.le_of_ble_eq_true rfl) ?_
  intro p e s m args below meth c A cx
  unfold f_TT_memory at hf
  refine r_ws (ws' := [((qo 0), ob 8 [.ref xtt_reader, .ref (q 0), .ref xtt_image, .ref xtt_trial, .ref xtt_alone, .ref xtt_program, .ref xtt_draft, .int (TT_kept tt)]), ((q 0), ob 2 [.ref (q 1), .ref (q 2), .ref (q 7), .ref (q 12), .ref (q 17), .ref (q 25), .ref (q 31), .ref xpa_program, .int (Pa_done pa), .int (Pa_down pa)]), ((q 1), aI K 8 (Pa_rules pa)), ((q 2), ob 6 [.ref (q 3), .ref (q 4), .ref (q 5), .ref (q 6), .int (St_place (Pa_leader pa)), .int (St_steps (Pa_leader pa))]), ((q 3), aI K 8 (St_registers (Pa_leader pa))), ((q 4), aI K 4 (St_floats (Pa_leader pa))), ((q 5), aI K 8 (St_stuckMask (Pa_leader pa))), ((q 6), aI K 8 (St_stuckOnes (Pa_leader pa))), ((q 7), ob 6 [.ref (q 8), .ref (q 9), .ref (q 10), .ref (q 11), .int (St_place (Pa_trailer pa)), .int (St_steps (Pa_trailer pa))]), ((q 8), aI K 8 (St_registers (Pa_trailer pa))), ((q 9), aI K 4 (St_floats (Pa_trailer pa))), ((q 10), aI K 8 (St_stuckMask (Pa_trailer pa))), ((q 11), aI K 8 (St_stuckOnes (Pa_trailer pa))), ((q 12), ob 6 [.ref (q 13), .ref (q 14), .ref (q 15), .ref (q 16), .int (St_place (Pa_point pa)), .int (St_steps (Pa_point pa))]), ((q 13), aI K 8 (St_registers (Pa_point pa))), ((q 14), aI K 4 (St_floats (Pa_point pa))), ((q 15), aI K 8 (St_stuckMask (Pa_point pa))), ((q 16), aI K 8 (St_stuckOnes (Pa_point pa))), ((q 17), ob 4 [.ref (q 18), .ref (q 19), .ref (q 20), .ref (q 21), .ref (q 22), .ref (q 23), .ref (q 24), .int (Qu_firstLoad (Pa_queues pa)), .int (Qu_loads (Pa_queues pa)), .int (Qu_firstBranch (Pa_queues pa)), .int (Qu_branches (Pa_queues pa)), .int (Qu_held (Pa_queues pa)), .int (Qu_comparedHeld (Pa_queues pa))]), ((q 18), aI K 8 (Qu_loadAddress (Pa_queues pa))), ((q 19), aI K 8 (Qu_loadWord (Pa_queues pa))), ((q 20), aI K 8 (Qu_branch (Pa_queues pa))), ((q 21), aI K 8 (Qu_heldAddress (Pa_queues pa))), ((q 22), aI K 8 (Qu_heldWord (Pa_queues pa))), ((q 23), aI K 8 (Qu_besideAddress (Pa_queues pa))), ((q 24), aI K 8 (Qu_besideWord (Pa_queues pa))), ((q 25), ob 1 [.ref (q 26), .ref (q 27), .ref (q 28), .ref (q 29), .ref (q 30), .int (Ou_stores (Pa_outside pa)), .int (Ou_outputs (Pa_outside pa))]), ((q 26), aI K 32 (Ou_memory (Pa_outside pa))), ((q 27), aI K 40 (Ou_output (Pa_outside pa))), ((q 28), aI K 16 (Ou_leftAddress (Pa_outside pa))), ((q 29), aI K 16 (Ou_leftWord (Pa_outside pa))), ((q 30), aI K 16 (Ou_leftPoint (Pa_outside pa))), ((q 31), ob 7 [.ref (q 32), .ref (q 33), .ref (q 34), .ref (q 35), .int (Ta_turns (Pa_tally pa)), .int (Ta_points (Pa_tally pa)), .int (Ta_alarms (Pa_tally pa)), .int (Ta_alarmsSincePoint (Pa_tally pa)), .int (Ta_greatestAhead (Pa_tally pa)), .int (Ta_aheadSum (Pa_tally pa)), .int (Ta_leaderTurns (Pa_tally pa)), .int (Ta_trailerTurns (Pa_tally pa)), .int (Ta_comparedSteps (Pa_tally pa))]), ((q 32), aI K 8 (Ta_alarmSort (Pa_tally pa))), ((q 33), aI K 8 (Ta_alarmTurn (Pa_tally pa))), ((q 34), aI K 8 (Ta_alarmLeaderSteps (Pa_tally pa))), ((q 35), aI K 8 (Ta_alarmTrailerSteps (Pa_tally pa)))]) rfl ?_
  refine r_iload_n (pc := 0) cx dX9_memory_0 1 rfl ?_
  refine r_if_lt (pc := 1) (tgt := 10) cx dX9_memory_1 (by decide) (fun h1 => ?_) (fun h1 => ?_)
  · have hf := ifp h1 hf
    refine r_iconst (pc := 10) cx dX9_memory_10 ic_0 ?_
    refine r_goto (pc := 11) (tgt := 26) cx dX9_memory_11 (by decide) ?_
    cases hf
    exact r_iret (pc := 26) cx rfl rfl dX9_memory_26
  · have hf := ifn h1 hf
    refine r_iload_n (pc := 4) cx dX9_memory_4 1 rfl ?_
    refine r_bipush (pc := 5) cx dX9_memory_5 bp_31 ?_
    refine r_icmp_le (pc := 7) (tgt := 14) cx dX9_memory_7 (by decide) (fun h2 => ?_) (fun h2 => ?_)
    · have hf := ifp h2 hf
      refine r_aload_n (pc := 14) cx dX9_memory_14 0 rfl ?_
      refine r_get (pc := 15) cx cf_X9 0 1 rfl (by decide) rfl wd_576 dX9_memory_15 ?_
      refine r_get (pc := 18) cx cf_X3 1 5 rfl (by decide) rfl wd_521 dX9_memory_18 ?_
      refine r_get (pc := 21) cx cf_X2 26 0 rfl (by decide) rfl wd_399 dX9_memory_21 ?_
      refine r_iload_n (pc := 24) cx dX9_memory_24 1 rfl ?_
      obtain ⟨h3, hf⟩ := chk_of hf
      refine r_iald (pc := 25) cx 27 rfl h3 dX9_memory_25 ?_
      cases hf
      exact r_iret (pc := 26) cx rfl rfl dX9_memory_26
    · have hf := ifn h2 hf
      refine r_iconst (pc := 10) cx dX9_memory_10 ic_0 ?_
      refine r_goto (pc := 11) (tgt := 26) cx dX9_memory_11 (by decide) ?_
      cases hf
      exact r_iret (pc := 26) cx rfl rfl dX9_memory_26
theorem yv_X9_memory : YV yX9_memory cX9_memory 2 (some .int) 1 := ⟨⟨by decide +kernel, by decide +kernel, by decide +kernel⟩, wd_960, wd_88, wd_958, wd_959⟩
def f_TT_output (tt : T_TT) (pa : T_Pa) (a1 : Int32) : Option (Int32) :=
  (bd (f_Ou_keptOutput (Pa_outside pa) a1) fun (r1 : Int32) => (some r1))
abbrev rm_TT_output : Room := { frames := 2, cells := 0, slots := 0, locals := 45 }
set_option maxRecDepth 100000 in
set_option maxHeartbeats 4000000 in
theorem m_TT_output (l : Launch) (D : va_G) (K : Nat → ClassId) (qo : Nat → Nat) (xtt_reader : Nat) (xtt_image : Nat) (xtt_trial : Nat) (xtt_alone : Nat) (xtt_program : Nat) (xtt_draft : Nat) (tt : T_TT) (q : Nat → Nat) (xpa_program : Nat) (pa : T_Pa) (a1 : Int32) {r_ : Int32} (hf : f_TT_output tt pa a1 = some r_) : MI l yX9_output cX9_output 2 (some .int) rm_TT_output D K [.ref (qo 0), .int a1] (cl_TT K qo xtt_reader (q 0) xtt_image xtt_trial xtt_alone xtt_program xtt_draft tt ++ (cl_Pa K q xpa_program pa)) r_ (cl_TT K qo xtt_reader (q 0) xtt_image xtt_trial xtt_alone xtt_program xtt_draft tt ++ (cl_Pa K q xpa_program pa)) := by
  refine MI_of (loc0 := [(0, .ref (qo 0)), (1, .int a1)]) (by decide +kernel) rfl (Nat.le_of_ble_eq_true rfl) ?_
  intro p e s m args below meth c A cx
  unfold f_TT_output at hf
  refine r_ws (ws' := [((qo 0), ob 8 [.ref xtt_reader, .ref (q 0), .ref xtt_image, .ref xtt_trial, .ref xtt_alone, .ref xtt_program, .ref xtt_draft, .int (TT_kept tt)]), ((q 0), ob 2 [.ref (q 1), .ref (q 2), .ref (q 7), .ref (q 12), .ref (q 17), .ref (q 25), .ref (q 31), .ref xpa_program, .int (Pa_done pa), .int (Pa_down pa)]), ((q 1), aI K 8 (Pa_rules pa)), ((q 2), ob 6 [.ref (q 3), .ref (q 4), .ref (q 5), .ref (q 6), .int (St_place (Pa_leader pa)), .int (St_steps (Pa_leader pa))]), ((q 3), aI K 8 (St_registers (Pa_leader pa))), ((q 4), aI K 4 (St_floats (Pa_leader pa))), ((q 5), aI K 8 (St_stuckMask (Pa_leader pa))), ((q 6), aI K 8 (St_stuckOnes (Pa_leader pa))), ((q 7), ob 6 [.ref (q 8), .ref (q 9), .ref (q 10), .ref (q 11), .int (St_place (Pa_trailer pa)), .int (St_steps (Pa_trailer pa))]), ((q 8), aI K 8 (St_registers (Pa_trailer pa))), ((q 9), aI K 4 (St_floats (Pa_trailer pa))), ((q 10), aI K 8 (St_stuckMask (Pa_trailer pa))), ((q 11), aI K 8 (St_stuckOnes (Pa_trailer pa))), ((q 12), ob 6 [.ref (q 13), .ref (q 14), .ref (q 15), .ref (q 16), .int (St_place (Pa_point pa)), .int (St_steps (Pa_point pa))]), ((q 13), aI K 8 (St_registers (Pa_point pa))), ((q 14), aI K 4 (St_floats (Pa_point pa))), ((q 15), aI K 8 (St_stuckMask (Pa_point pa))), ((q 16), aI K 8 (St_stuckOnes (Pa_point pa))), ((q 17), ob 4 [.ref (q 18), .ref (q 19), .ref (q 20), .ref (q 21), .ref (q 22), .ref (q 23), .ref (q 24), .int (Qu_firstLoad (Pa_queues pa)), .int (Qu_loads (Pa_queues pa)), .int (Qu_firstBranch (Pa_queues pa)), .int (Qu_branches (Pa_queues pa)), .int (Qu_held (Pa_queues pa)), .int (Qu_comparedHeld (Pa_queues pa))]), ((q 18), aI K 8 (Qu_loadAddress (Pa_queues pa))), ((q 19), aI K 8 (Qu_loadWord (Pa_queues pa))), ((q 20), aI K 8 (Qu_branch (Pa_queues pa))), ((q 21), aI K 8 (Qu_heldAddress (Pa_queues pa))), ((q 22), aI K 8 (Qu_heldWord (Pa_queues pa))), ((q 23), aI K 8 (Qu_besideAddress (Pa_queues pa))), ((q 24), aI K 8 (Qu_besideWord (Pa_queues pa))), ((q 25), ob 1 [.ref (q 26), .ref (q 27), .ref (q 28), .ref (q 29), .ref (q 30), .int (Ou_stores (Pa_outside pa)), .int (Ou_outputs (Pa_outside pa))]), ((q 26), aI K 32 (Ou_memory (Pa_outside pa))), ((q 27), aI K 40 (Ou_output (Pa_outside pa))), ((q 28), aI K 16 (Ou_leftAddress (Pa_outside pa))), ((q 29), aI K 16 (Ou_leftWord (Pa_outside pa))), ((q 30), aI K 16 (Ou_leftPoint (Pa_outside pa))), ((q 31), ob 7 [.ref (q 32), .ref (q 33), .ref (q 34), .ref (q 35), .int (Ta_turns (Pa_tally pa)), .int (Ta_points (Pa_tally pa)), .int (Ta_alarms (Pa_tally pa)), .int (Ta_alarmsSincePoint (Pa_tally pa)), .int (Ta_greatestAhead (Pa_tally pa)), .int (Ta_aheadSum (Pa_tally pa)), .int (Ta_leaderTurns (Pa_tally pa)), .int (Ta_trailerTurns (Pa_tally pa)), .int (Ta_comparedSteps (Pa_tally pa))]), ((q 32), aI K 8 (Ta_alarmSort (Pa_tally pa))), ((q 33), aI K 8 (Ta_alarmTurn (Pa_tally pa))), ((q 34), aI K 8 (Ta_alarmLeaderSteps (Pa_tally pa))), ((q 35), aI K 8 (Ta_alarmTrailerSteps (Pa_tally pa)))]) rfl ?_
  refine r_aload_n (pc := 0) cx dX9_output_0 0 rfl ?_
  refine r_get (pc := 1) cx cf_X9 0 1 rfl (by decide) rfl wd_576 dX9_output_1 ?_
  refine r_get (pc := 4) cx cf_X3 1 5 rfl (by decide) rfl wd_521 dX9_output_4 ?_
  refine r_iload_n (pc := 7) cx dX9_output_7 1 rfl ?_
  obtain ⟨r1, hc2, hf⟩ := bd_of hf
  refine r_Vi (pc := 8) (ws' := [((qo 0), ob 8 [.ref xtt_reader, .ref (q 0), .ref xtt_image, .ref xtt_trial, .ref xtt_alone, .ref xtt_program, .ref xtt_draft, .int (TT_kept tt)]), ((q 0), ob 2 [.ref (q 1), .ref (q 2), .ref (q 7), .ref (q 12), .ref (q 17), .ref (q 25), .ref (q 31), .ref xpa_program, .int (Pa_done pa), .int (Pa_down pa)]), ((q 1), aI K 8 (Pa_rules pa)), ((q 2), ob 6 [.ref (q 3), .ref (q 4), .ref (q 5), .ref (q 6), .int (St_place (Pa_leader pa)), .int (St_steps (Pa_leader pa))]), ((q 3), aI K 8 (St_registers (Pa_leader pa))), ((q 4), aI K 4 (St_floats (Pa_leader pa))), ((q 5), aI K 8 (St_stuckMask (Pa_leader pa))), ((q 6), aI K 8 (St_stuckOnes (Pa_leader pa))), ((q 7), ob 6 [.ref (q 8), .ref (q 9), .ref (q 10), .ref (q 11), .int (St_place (Pa_trailer pa)), .int (St_steps (Pa_trailer pa))]), ((q 8), aI K 8 (St_registers (Pa_trailer pa))), ((q 9), aI K 4 (St_floats (Pa_trailer pa))), ((q 10), aI K 8 (St_stuckMask (Pa_trailer pa))), ((q 11), aI K 8 (St_stuckOnes (Pa_trailer pa))), ((q 12), ob 6 [.ref (q 13), .ref (q 14), .ref (q 15), .ref (q 16), .int (St_place (Pa_point pa)), .int (St_steps (Pa_point pa))]), ((q 13), aI K 8 (St_registers (Pa_point pa))), ((q 14), aI K 4 (St_floats (Pa_point pa))), ((q 15), aI K 8 (St_stuckMask (Pa_point pa))), ((q 16), aI K 8 (St_stuckOnes (Pa_point pa))), ((q 17), ob 4 [.ref (q 18), .ref (q 19), .ref (q 20), .ref (q 21), .ref (q 22), .ref (q 23), .ref (q 24), .int (Qu_firstLoad (Pa_queues pa)), .int (Qu_loads (Pa_queues pa)), .int (Qu_firstBranch (Pa_queues pa)), .int (Qu_branches (Pa_queues pa)), .int (Qu_held (Pa_queues pa)), .int (Qu_comparedHeld (Pa_queues pa))]), ((q 18), aI K 8 (Qu_loadAddress (Pa_queues pa))), ((q 19), aI K 8 (Qu_loadWord (Pa_queues pa))), ((q 20), aI K 8 (Qu_branch (Pa_queues pa))), ((q 21), aI K 8 (Qu_heldAddress (Pa_queues pa))), ((q 22), aI K 8 (Qu_heldWord (Pa_queues pa))), ((q 23), aI K 8 (Qu_besideAddress (Pa_queues pa))), ((q 24), aI K 8 (Qu_besideWord (Pa_queues pa))), ((q 25), ob 1 [.ref (q 26), .ref (q 27), .ref (q 28), .ref (q 29), .ref (q 30), .int (Ou_stores (Pa_outside pa)), .int (Ou_outputs (Pa_outside pa))]), ((q 26), aI K 32 (Ou_memory (Pa_outside pa))), ((q 27), aI K 40 (Ou_output (Pa_outside pa))), ((q 28), aI K 16 (Ou_leftAddress (Pa_outside pa))), ((q 29), aI K 16 (Ou_leftWord (Pa_outside pa))), ((q 30), aI K 16 (Ou_leftPoint (Pa_outside pa))), ((q 31), ob 7 [.ref (q 32), .ref (q 33), .ref (q 34), .ref (q 35), .int (Ta_turns (Pa_tally pa)), .int (Ta_points (Pa_tally pa)), .int (Ta_alarms (Pa_tally pa)), .int (Ta_alarmsSincePoint (Pa_tally pa)), .int (Ta_greatestAhead (Pa_tally pa)), .int (Ta_aheadSum (Pa_tally pa)), .int (Ta_leaderTurns (Pa_tally pa)), .int (Ta_trailerTurns (Pa_tally pa)), .int (Ta_comparedSteps (Pa_tally pa))]), ((q 32), aI K 8 (Ta_alarmSort (Pa_tally pa))), ((q 33), aI K 8 (Ta_alarmTurn (Pa_tally pa))), ((q 34), aI K 8 (Ta_alarmLeaderSteps (Pa_tally pa))), ((q 35), aI K 8 (Ta_alarmTrailerSteps (Pa_tally pa)))]) (nn := 6) cx [.int a1] [] (m_Ou_keptOutput l D K (fun i => q (i + 25)) (Pa_outside pa) a1 hc2) yv_X2_keptOutput wd_965 ⟨rfl, rfl⟩ (by decide) (fr_k (fr_k (fr_k (fr_k (fr_k (fr_k (fr_k (fr_k (fr_k (fr_k (fr_k (fr_k (fr_k (fr_k (fr_k (fr_k (fr_k (fr_k (fr_k (fr_k (fr_k (fr_k (fr_k (fr_k (fr_k (fr_k (fr_s (j := 0) rfl rfl rfl (fr_s (j := 1) rfl rfl rfl (fr_s (j := 2) rfl rfl rfl (fr_s (j := 3) rfl rfl rfl (fr_s (j := 4) rfl rfl rfl (fr_s (j := 5) rfl rfl rfl (fr_k (fr_k (fr_k (fr_k (fr_k (fr_n)))))))))))))))))))))))))))))))))))))) rfl (by decide) 26 rfl rfl rfl (Nat.le_of_ble_eq_true rfl) dX9_output_8 ?_
  cases hf
  exact r_iret (pc := 11) cx rfl rfl dX9_output_11
theorem yv_X9_output : YV yX9_output cX9_output 2 (some .int) 1 := ⟨⟨by decide +kernel, by decide +kernel, by decide +kernel⟩, wd_964, wd_88, wd_962, wd_963⟩
def f_TT_queued (tt : T_TT) (pa : T_Pa) (a1 : Int32) (a2 : Int32) (a3 : Int32) : Option (Int32) :=
  (if a1 = (0 : Int32) then (bd (f_Qu_loadPart (Pa_queues pa) a2 a3) fun (r2 : Int32) => (some r2)) else (if a1 = (1 : Int32) then (bd (f_Qu_branchPart (Pa_queues pa) a2 a3) fun (r5 : Int32) => (some r5)) else (if a1 = (2 : Int32) then (bd (f_Qu_heldPart (Pa_queues pa) a2 a3) fun (r8 : Int32) => (some r8)) else (some (0 : Int32)))))
abbrev rm_TT_queued : Room := { frames := 1, cells := 0, slots := 0, locals := 23 }
set_option maxRecDepth 100000 in
set_option maxHeartbeats 4000000 in
theorem m_TT_queued (l : Launch) (D : va_G) (K : Nat → ClassId) (qo : Nat → Nat) (xtt_reader : Nat) (xtt_image : Nat) (xtt_trial : Nat) (xtt_alone : Nat) (xtt_program : Nat) (xtt_draft : Nat) (tt : T_TT) (q : Nat → Nat) (xpa_program : Nat) (pa : T_Pa) (a1 : Int32) (a2 : Int32) (a3 : Int32) {r_ : Int32} (hf : f_TT_queued tt pa a1 a2 a3 = some r_) : MI l yX9_queued cX9_queued 4 (some .int) rm_TT_queued D K [.ref (qo 0), .int a1, .int a2, .int a3] (cl_TT K qo xtt_reader (q 0) xtt_image xtt_trial xtt_alone xtt_program xtt_draft tt ++ (cl_Pa K q xpa_program pa)) r_ (cl_TT K qo xtt_reader (q 0) xtt_image xtt_trial xtt_alone xtt_program xtt_draft tt ++ (cl_Pa K q xpa_program pa)) := by
  refine MI_of (loc0 := [(0, .ref (qo 0)), (1, .int a1), (2, .int a2), (3, .int a3)]) (by decide +kernel) rfl (Nat.le_of_ble_eq_true rfl) ?_
  intro p e s m args below meth c A cx
  unfold f_TT_queued at hf
  refine r_ws (ws' := [((qo 0), ob 8 [.ref xtt_reader, .ref (q 0), .ref xtt_image, .ref xtt_trial, .ref xtt_alone, .ref xtt_program, .ref xtt_draft, .int (TT_kept tt)]), ((q 0), ob 2 [.ref (q 1), .ref (q 2), .ref (q 7), .ref (q 12), .ref (q 17), .ref (q 25), .ref (q 31), .ref xpa_program, .int (Pa_done pa), .int (Pa_down pa)]), ((q 1), aI K 8 (Pa_rules pa)), ((q 2), ob 6 [.ref (q 3), .ref (q 4), .ref (q 5), .ref (q 6), .int (St_place (Pa_leader pa)), .int (St_steps (Pa_leader pa))]), ((q 3), aI K 8 (St_registers (Pa_leader pa))), ((q 4), aI K 4 (St_floats (Pa_leader pa))), ((q 5), aI K 8 (St_stuckMask (Pa_leader pa))), ((q 6), aI K 8 (St_stuckOnes (Pa_leader pa))), ((q 7), ob 6 [.ref (q 8), .ref (q 9), .ref (q 10), .ref (q 11), .int (St_place (Pa_trailer pa)), .int (St_steps (Pa_trailer pa))]), ((q 8), aI K 8 (St_registers (Pa_trailer pa))), ((q 9), aI K 4 (St_floats (Pa_trailer pa))), ((q 10), aI K 8 (St_stuckMask (Pa_trailer pa))), ((q 11), aI K 8 (St_stuckOnes (Pa_trailer pa))), ((q 12), ob 6 [.ref (q 13), .ref (q 14), .ref (q 15), .ref (q 16), .int (St_place (Pa_point pa)), .int (St_steps (Pa_point pa))]), ((q 13), aI K 8 (St_registers (Pa_point pa))), ((q 14), aI K 4 (St_floats (Pa_point pa))), ((q 15), aI K 8 (St_stuckMask (Pa_point pa))), ((q 16), aI K 8 (St_stuckOnes (Pa_point pa))), ((q 17), ob 4 [.ref (q 18), .ref (q 19), .ref (q 20), .ref (q 21), .ref (q 22), .ref (q 23), .ref (q 24), .int (Qu_firstLoad (Pa_queues pa)), .int (Qu_loads (Pa_queues pa)), .int (Qu_firstBranch (Pa_queues pa)), .int (Qu_branches (Pa_queues pa)), .int (Qu_held (Pa_queues pa)), .int (Qu_comparedHeld (Pa_queues pa))]), ((q 18), aI K 8 (Qu_loadAddress (Pa_queues pa))), ((q 19), aI K 8 (Qu_loadWord (Pa_queues pa))), ((q 20), aI K 8 (Qu_branch (Pa_queues pa))), ((q 21), aI K 8 (Qu_heldAddress (Pa_queues pa))), ((q 22), aI K 8 (Qu_heldWord (Pa_queues pa))), ((q 23), aI K 8 (Qu_besideAddress (Pa_queues pa))), ((q 24), aI K 8 (Qu_besideWord (Pa_queues pa))), ((q 25), ob 1 [.ref (q 26), .ref (q 27), .ref (q 28), .ref (q 29), .ref (q 30), .int (Ou_stores (Pa_outside pa)), .int (Ou_outputs (Pa_outside pa))]), ((q 26), aI K 32 (Ou_memory (Pa_outside pa))), ((q 27), aI K 40 (Ou_output (Pa_outside pa))), ((q 28), aI K 16 (Ou_leftAddress (Pa_outside pa))), ((q 29), aI K 16 (Ou_leftWord (Pa_outside pa))), ((q 30), aI K 16 (Ou_leftPoint (Pa_outside pa))), ((q 31), ob 7 [.ref (q 32), .ref (q 33), .ref (q 34), .ref (q 35), .int (Ta_turns (Pa_tally pa)), .int (Ta_points (Pa_tally pa)), .int (Ta_alarms (Pa_tally pa)), .int (Ta_alarmsSincePoint (Pa_tally pa)), .int (Ta_greatestAhead (Pa_tally pa)), .int (Ta_aheadSum (Pa_tally pa)), .int (Ta_leaderTurns (Pa_tally pa)), .int (Ta_trailerTurns (Pa_tally pa)), .int (Ta_comparedSteps (Pa_tally pa))]), ((q 32), aI K 8 (Ta_alarmSort (Pa_tally pa))), ((q 33), aI K 8 (Ta_alarmTurn (Pa_tally pa))), ((q 34), aI K 8 (Ta_alarmLeaderSteps (Pa_tally pa))), ((q 35), aI K 8 (Ta_alarmTrailerSteps (Pa_tally pa)))]) rfl ?_
  refine r_iload_n (pc := 0) cx dX9_queued_0 1 rfl ?_
  by_cases h1 : a1 = (0 : Int32)
  · have hf := ifp h1 hf
    refine r_tin (pc := 1) (tgt := 28) cx (0 : Int32) h1 dX9_queued_1 (by decide) (by decide) rfl (by decide) ?_
    refine r_aload_n (pc := 28) cx dX9_queued_28 0 rfl ?_
    refine r_get (pc := 29) cx cf_X9 0 1 rfl (by decide) rfl wd_576 dX9_queued_29 ?_
    refine r_get (pc := 32) cx cf_X3 1 4 rfl (by decide) rfl wd_519 dX9_queued_32 ?_
    refine r_iload_n (pc := 35) cx dX9_queued_35 2 rfl ?_
    refine r_iload_n (pc := 36) cx dX9_queued_36 3 rfl ?_
    obtain ⟨r2, hc3, hf⟩ := bd_of hf
    refine r_Vi (pc := 37) (ws' := [((qo 0), ob 8 [.ref xtt_reader, .ref (q 0), .ref xtt_image, .ref xtt_trial, .ref xtt_alone, .ref xtt_program, .ref xtt_draft, .int (TT_kept tt)]), ((q 0), ob 2 [.ref (q 1), .ref (q 2), .ref (q 7), .ref (q 12), .ref (q 17), .ref (q 25), .ref (q 31), .ref xpa_program, .int (Pa_done pa), .int (Pa_down pa)]), ((q 1), aI K 8 (Pa_rules pa)), ((q 2), ob 6 [.ref (q 3), .ref (q 4), .ref (q 5), .ref (q 6), .int (St_place (Pa_leader pa)), .int (St_steps (Pa_leader pa))]), ((q 3), aI K 8 (St_registers (Pa_leader pa))), ((q 4), aI K 4 (St_floats (Pa_leader pa))), ((q 5), aI K 8 (St_stuckMask (Pa_leader pa))), ((q 6), aI K 8 (St_stuckOnes (Pa_leader pa))), ((q 7), ob 6 [.ref (q 8), .ref (q 9), .ref (q 10), .ref (q 11), .int (St_place (Pa_trailer pa)), .int (St_steps (Pa_trailer pa))]), ((q 8), aI K 8 (St_registers (Pa_trailer pa))), ((q 9), aI K 4 (St_floats (Pa_trailer pa))), ((q 10), aI K 8 (St_stuckMask (Pa_trailer pa))), ((q 11), aI K 8 (St_stuckOnes (Pa_trailer pa))), ((q 12), ob 6 [.ref (q 13), .ref (q 14), .ref (q 15), .ref (q 16), .int (St_place (Pa_point pa)), .int (St_steps (Pa_point pa))]), ((q 13), aI K 8 (St_registers (Pa_point pa))), ((q 14), aI K 4 (St_floats (Pa_point pa))), ((q 15), aI K 8 (St_stuckMask (Pa_point pa))), ((q 16), aI K 8 (St_stuckOnes (Pa_point pa))), ((q 17), ob 4 [.ref (q 18), .ref (q 19), .ref (q 20), .ref (q 21), .ref (q 22), .ref (q 23), .ref (q 24), .int (Qu_firstLoad (Pa_queues pa)), .int (Qu_loads (Pa_queues pa)), .int (Qu_firstBranch (Pa_queues pa)), .int (Qu_branches (Pa_queues pa)), .int (Qu_held (Pa_queues pa)), .int (Qu_comparedHeld (Pa_queues pa))]), ((q 18), aI K 8 (Qu_loadAddress (Pa_queues pa))), ((q 19), aI K 8 (Qu_loadWord (Pa_queues pa))), ((q 20), aI K 8 (Qu_branch (Pa_queues pa))), ((q 21), aI K 8 (Qu_heldAddress (Pa_queues pa))), ((q 22), aI K 8 (Qu_heldWord (Pa_queues pa))), ((q 23), aI K 8 (Qu_besideAddress (Pa_queues pa))), ((q 24), aI K 8 (Qu_besideWord (Pa_queues pa))), ((q 25), ob 1 [.ref (q 26), .ref (q 27), .ref (q 28), .ref (q 29), .ref (q 30), .int (Ou_stores (Pa_outside pa)), .int (Ou_outputs (Pa_outside pa))]), ((q 26), aI K 32 (Ou_memory (Pa_outside pa))), ((q 27), aI K 40 (Ou_output (Pa_outside pa))), ((q 28), aI K 16 (Ou_leftAddress (Pa_outside pa))), ((q 29), aI K 16 (Ou_leftWord (Pa_outside pa))), ((q 30), aI K 16 (Ou_leftPoint (Pa_outside pa))), ((q 31), ob 7 [.ref (q 32), .ref (q 33), .ref (q 34), .ref (q 35), .int (Ta_turns (Pa_tally pa)), .int (Ta_points (Pa_tally pa)), .int (Ta_alarms (Pa_tally pa)), .int (Ta_alarmsSincePoint (Pa_tally pa)), .int (Ta_greatestAhead (Pa_tally pa)), .int (Ta_aheadSum (Pa_tally pa)), .int (Ta_leaderTurns (Pa_tally pa)), .int (Ta_trailerTurns (Pa_tally pa)), .int (Ta_comparedSteps (Pa_tally pa))]), ((q 32), aI K 8 (Ta_alarmSort (Pa_tally pa))), ((q 33), aI K 8 (Ta_alarmTurn (Pa_tally pa))), ((q 34), aI K 8 (Ta_alarmLeaderSteps (Pa_tally pa))), ((q 35), aI K 8 (Ta_alarmTrailerSteps (Pa_tally pa)))]) (nn := 8) cx [.int a2, .int a3] [] (m_Qu_loadPart l D K (fun i => q (i + 17)) (Pa_queues pa) a2 a3 hc3) yv_X5_loadPart wd_973 ⟨rfl, rfl⟩ (by decide) (fr_k (fr_k (fr_k (fr_k (fr_k (fr_k (fr_k (fr_k (fr_k (fr_k (fr_k (fr_k (fr_k (fr_k (fr_k (fr_k (fr_k (fr_k (fr_s (j := 0) rfl rfl rfl (fr_s (j := 1) rfl rfl rfl (fr_s (j := 2) rfl rfl rfl (fr_s (j := 3) rfl rfl rfl (fr_s (j := 4) rfl rfl rfl (fr_s (j := 5) rfl rfl rfl (fr_s (j := 6) rfl rfl rfl (fr_s (j := 7) rfl rfl rfl (fr_k (fr_k (fr_k (fr_k (fr_k (fr_k (fr_k (fr_k (fr_k (fr_k (fr_k (fr_n)))))))))))))))))))))))))))))))))))))) rfl (by decide) 18 rfl rfl rfl (Nat.le_of_ble_eq_true rfl) dX9_queued_37 ?_
    cases hf
    exact r_iret (pc := 40) cx rfl rfl dX9_queued_40
  · have hf := ifn h1 hf
    by_cases h4 : a1 = (1 : Int32)
    · have hf := ifp h4 hf
      refine r_tin (pc := 1) (tgt := 41) cx (1 : Int32) h4 dX9_queued_1 (by decide) (by decide) rfl (by decide) ?_
      refine r_aload_n (pc := 41) cx dX9_queued_41 0 rfl ?_
      refine r_get (pc := 42) cx cf_X9 0 1 rfl (by decide) rfl wd_576 dX9_queued_42 ?_
      refine r_get (pc := 45) cx cf_X3 1 4 rfl (by decide) rfl wd_519 dX9_queued_45 ?_
      refine r_iload_n (pc := 48) cx dX9_queued_48 2 rfl ?_
      refine r_iload_n (pc := 49) cx dX9_queued_49 3 rfl ?_
      obtain ⟨r5, hc6, hf⟩ := bd_of hf
      refine r_Vi (pc := 50) (ws' := [((qo 0), ob 8 [.ref xtt_reader, .ref (q 0), .ref xtt_image, .ref xtt_trial, .ref xtt_alone, .ref xtt_program, .ref xtt_draft, .int (TT_kept tt)]), ((q 0), ob 2 [.ref (q 1), .ref (q 2), .ref (q 7), .ref (q 12), .ref (q 17), .ref (q 25), .ref (q 31), .ref xpa_program, .int (Pa_done pa), .int (Pa_down pa)]), ((q 1), aI K 8 (Pa_rules pa)), ((q 2), ob 6 [.ref (q 3), .ref (q 4), .ref (q 5), .ref (q 6), .int (St_place (Pa_leader pa)), .int (St_steps (Pa_leader pa))]), ((q 3), aI K 8 (St_registers (Pa_leader pa))), ((q 4), aI K 4 (St_floats (Pa_leader pa))), ((q 5), aI K 8 (St_stuckMask (Pa_leader pa))), ((q 6), aI K 8 (St_stuckOnes (Pa_leader pa))), ((q 7), ob 6 [.ref (q 8), .ref (q 9), .ref (q 10), .ref (q 11), .int (St_place (Pa_trailer pa)), .int (St_steps (Pa_trailer pa))]), ((q 8), aI K 8 (St_registers (Pa_trailer pa))), ((q 9), aI K 4 (St_floats (Pa_trailer pa))), ((q 10), aI K 8 (St_stuckMask (Pa_trailer pa))), ((q 11), aI K 8 (St_stuckOnes (Pa_trailer pa))), ((q 12), ob 6 [.ref (q 13), .ref (q 14), .ref (q 15), .ref (q 16), .int (St_place (Pa_point pa)), .int (St_steps (Pa_point pa))]), ((q 13), aI K 8 (St_registers (Pa_point pa))), ((q 14), aI K 4 (St_floats (Pa_point pa))), ((q 15), aI K 8 (St_stuckMask (Pa_point pa))), ((q 16), aI K 8 (St_stuckOnes (Pa_point pa))), ((q 17), ob 4 [.ref (q 18), .ref (q 19), .ref (q 20), .ref (q 21), .ref (q 22), .ref (q 23), .ref (q 24), .int (Qu_firstLoad (Pa_queues pa)), .int (Qu_loads (Pa_queues pa)), .int (Qu_firstBranch (Pa_queues pa)), .int (Qu_branches (Pa_queues pa)), .int (Qu_held (Pa_queues pa)), .int (Qu_comparedHeld (Pa_queues pa))]), ((q 18), aI K 8 (Qu_loadAddress (Pa_queues pa))), ((q 19), aI K 8 (Qu_loadWord (Pa_queues pa))), ((q 20), aI K 8 (Qu_branch (Pa_queues pa))), ((q 21), aI K 8 (Qu_heldAddress (Pa_queues pa))), ((q 22), aI K 8 (Qu_heldWord (Pa_queues pa))), ((q 23), aI K 8 (Qu_besideAddress (Pa_queues pa))), ((q 24), aI K 8 (Qu_besideWord (Pa_queues pa))), ((q 25), ob 1 [.ref (q 26), .ref (q 27), .ref (q 28), .ref (q 29), .ref (q 30), .int (Ou_stores (Pa_outside pa)), .int (Ou_outputs (Pa_outside pa))]), ((q 26), aI K 32 (Ou_memory (Pa_outside pa))), ((q 27), aI K 40 (Ou_output (Pa_outside pa))), ((q 28), aI K 16 (Ou_leftAddress (Pa_outside pa))), ((q 29), aI K 16 (Ou_leftWord (Pa_outside pa))), ((q 30), aI K 16 (Ou_leftPoint (Pa_outside pa))), ((q 31), ob 7 [.ref (q 32), .ref (q 33), .ref (q 34), .ref (q 35), .int (Ta_turns (Pa_tally pa)), .int (Ta_points (Pa_tally pa)), .int (Ta_alarms (Pa_tally pa)), .int (Ta_alarmsSincePoint (Pa_tally pa)), .int (Ta_greatestAhead (Pa_tally pa)), .int (Ta_aheadSum (Pa_tally pa)), .int (Ta_leaderTurns (Pa_tally pa)), .int (Ta_trailerTurns (Pa_tally pa)), .int (Ta_comparedSteps (Pa_tally pa))]), ((q 32), aI K 8 (Ta_alarmSort (Pa_tally pa))), ((q 33), aI K 8 (Ta_alarmTurn (Pa_tally pa))), ((q 34), aI K 8 (Ta_alarmLeaderSteps (Pa_tally pa))), ((q 35), aI K 8 (Ta_alarmTrailerSteps (Pa_tally pa)))]) (nn := 8) cx [.int a2, .int a3] [] (m_Qu_branchPart l D K (fun i => q (i + 17)) (Pa_queues pa) a2 a3 hc6) yv_X5_branchPart wd_977 ⟨rfl, rfl⟩ (by decide) (fr_k (fr_k (fr_k (fr_k (fr_k (fr_k (fr_k (fr_k (fr_k (fr_k (fr_k (fr_k (fr_k (fr_k (fr_k (fr_k (fr_k (fr_k (fr_s (j := 0) rfl rfl rfl (fr_s (j := 1) rfl rfl rfl (fr_s (j := 2) rfl rfl rfl (fr_s (j := 3) rfl rfl rfl (fr_s (j := 4) rfl rfl rfl (fr_s (j := 5) rfl rfl rfl (fr_s (j := 6) rfl rfl rfl (fr_s (j := 7) rfl rfl rfl (fr_k (fr_k (fr_k (fr_k (fr_k (fr_k (fr_k (fr_k (fr_k (fr_k (fr_k (fr_n)))))))))))))))))))))))))))))))))))))) rfl (by decide) 18 rfl rfl rfl (Nat.le_of_ble_eq_true rfl) dX9_queued_50 ?_
      cases hf
      exact r_iret (pc := 53) cx rfl rfl dX9_queued_53
    · have hf := ifn h4 hf
      by_cases h7 : a1 = (2 : Int32)
      · have hf := ifp h7 hf
        refine r_tin (pc := 1) (tgt := 54) cx (2 : Int32) h7 dX9_queued_1 (by decide) (by decide) rfl (by decide) ?_
        refine r_aload_n (pc := 54) cx dX9_queued_54 0 rfl ?_
        refine r_get (pc := 55) cx cf_X9 0 1 rfl (by decide) rfl wd_576 dX9_queued_55 ?_
        refine r_get (pc := 58) cx cf_X3 1 4 rfl (by decide) rfl wd_519 dX9_queued_58 ?_
        refine r_iload_n (pc := 61) cx dX9_queued_61 2 rfl ?_
        refine r_iload_n (pc := 62) cx dX9_queued_62 3 rfl ?_
        obtain ⟨r8, hc9, hf⟩ := bd_of hf
        refine r_Vi (pc := 63) (ws' := [((qo 0), ob 8 [.ref xtt_reader, .ref (q 0), .ref xtt_image, .ref xtt_trial, .ref xtt_alone, .ref xtt_program, .ref xtt_draft, .int (TT_kept tt)]), ((q 0), ob 2 [.ref (q 1), .ref (q 2), .ref (q 7), .ref (q 12), .ref (q 17), .ref (q 25), .ref (q 31), .ref xpa_program, .int (Pa_done pa), .int (Pa_down pa)]), ((q 1), aI K 8 (Pa_rules pa)), ((q 2), ob 6 [.ref (q 3), .ref (q 4), .ref (q 5), .ref (q 6), .int (St_place (Pa_leader pa)), .int (St_steps (Pa_leader pa))]), ((q 3), aI K 8 (St_registers (Pa_leader pa))), ((q 4), aI K 4 (St_floats (Pa_leader pa))), ((q 5), aI K 8 (St_stuckMask (Pa_leader pa))), ((q 6), aI K 8 (St_stuckOnes (Pa_leader pa))), ((q 7), ob 6 [.ref (q 8), .ref (q 9), .ref (q 10), .ref (q 11), .int (St_place (Pa_trailer pa)), .int (St_steps (Pa_trailer pa))]), ((q 8), aI K 8 (St_registers (Pa_trailer pa))), ((q 9), aI K 4 (St_floats (Pa_trailer pa))), ((q 10), aI K 8 (St_stuckMask (Pa_trailer pa))), ((q 11), aI K 8 (St_stuckOnes (Pa_trailer pa))), ((q 12), ob 6 [.ref (q 13), .ref (q 14), .ref (q 15), .ref (q 16), .int (St_place (Pa_point pa)), .int (St_steps (Pa_point pa))]), ((q 13), aI K 8 (St_registers (Pa_point pa))), ((q 14), aI K 4 (St_floats (Pa_point pa))), ((q 15), aI K 8 (St_stuckMask (Pa_point pa))), ((q 16), aI K 8 (St_stuckOnes (Pa_point pa))), ((q 17), ob 4 [.ref (q 18), .ref (q 19), .ref (q 20), .ref (q 21), .ref (q 22), .ref (q 23), .ref (q 24), .int (Qu_firstLoad (Pa_queues pa)), .int (Qu_loads (Pa_queues pa)), .int (Qu_firstBranch (Pa_queues pa)), .int (Qu_branches (Pa_queues pa)), .int (Qu_held (Pa_queues pa)), .int (Qu_comparedHeld (Pa_queues pa))]), ((q 18), aI K 8 (Qu_loadAddress (Pa_queues pa))), ((q 19), aI K 8 (Qu_loadWord (Pa_queues pa))), ((q 20), aI K 8 (Qu_branch (Pa_queues pa))), ((q 21), aI K 8 (Qu_heldAddress (Pa_queues pa))), ((q 22), aI K 8 (Qu_heldWord (Pa_queues pa))), ((q 23), aI K 8 (Qu_besideAddress (Pa_queues pa))), ((q 24), aI K 8 (Qu_besideWord (Pa_queues pa))), ((q 25), ob 1 [.ref (q 26), .ref (q 27), .ref (q 28), .ref (q 29), .ref (q 30), .int (Ou_stores (Pa_outside pa)), .int (Ou_outputs (Pa_outside pa))]), ((q 26), aI K 32 (Ou_memory (Pa_outside pa))), ((q 27), aI K 40 (Ou_output (Pa_outside pa))), ((q 28), aI K 16 (Ou_leftAddress (Pa_outside pa))), ((q 29), aI K 16 (Ou_leftWord (Pa_outside pa))), ((q 30), aI K 16 (Ou_leftPoint (Pa_outside pa))), ((q 31), ob 7 [.ref (q 32), .ref (q 33), .ref (q 34), .ref (q 35), .int (Ta_turns (Pa_tally pa)), .int (Ta_points (Pa_tally pa)), .int (Ta_alarms (Pa_tally pa)), .int (Ta_alarmsSincePoint (Pa_tally pa)), .int (Ta_greatestAhead (Pa_tally pa)), .int (Ta_aheadSum (Pa_tally pa)), .int (Ta_leaderTurns (Pa_tally pa)), .int (Ta_trailerTurns (Pa_tally pa)), .int (Ta_comparedSteps (Pa_tally pa))]), ((q 32), aI K 8 (Ta_alarmSort (Pa_tally pa))), ((q 33), aI K 8 (Ta_alarmTurn (Pa_tally pa))), ((q 34), aI K 8 (Ta_alarmLeaderSteps (Pa_tally pa))), ((q 35), aI K 8 (Ta_alarmTrailerSteps (Pa_tally pa)))]) (nn := 8) cx [.int a2, .int a3] [] (m_Qu_heldPart l D K (fun i => q (i + 17)) (Pa_queues pa) a2 a3 hc9) yv_X5_heldPart wd_981 ⟨rfl, rfl⟩ (by decide) (fr_k (fr_k (fr_k (fr_k (fr_k (fr_k (fr_k (fr_k (fr_k (fr_k (fr_k (fr_k (fr_k (fr_k (fr_k (fr_k (fr_k (fr_k (fr_s (j := 0) rfl rfl rfl (fr_s (j := 1) rfl rfl rfl (fr_s (j := 2) rfl rfl rfl (fr_s (j := 3) rfl rfl rfl (fr_s (j := 4) rfl rfl rfl (fr_s (j := 5) rfl rfl rfl (fr_s (j := 6) rfl rfl rfl (fr_s (j := 7) rfl rfl rfl (fr_k (fr_k (fr_k (fr_k (fr_k (fr_k (fr_k (fr_k (fr_k (fr_k (fr_k (fr_n)))))))))))))))))))))))))))))))))))))) rfl (by decide) 18 rfl rfl rfl (Nat.le_of_ble_eq_true rfl) dX9_queued_63 ?_
        cases hf
        exact r_iret (pc := 66) cx rfl rfl dX9_queued_66
      · have hf := ifn h7 hf
        refine r_tout (pc := 1) (tgt := 67) cx dX9_queued_1 (by
          have nh1 := toInt_ne h1
          have mh1 : (0 : Int32).toInt = 0 := by decide
          rw [mh1] at nh1
          have nh4 := toInt_ne h4
          have mh4 : (1 : Int32).toInt = 1 := by decide
          rw [mh4] at nh4
          have nh7 := toInt_ne h7
          have mh7 : (2 : Int32).toInt = 2 := by decide
          rw [mh7] at nh7
          omega) (by decide) ?_
        refine r_iconst (pc := 67) cx dX9_queued_67 ic_0 ?_
        cases hf
        exact r_iret (pc := 68) cx rfl rfl dX9_queued_68
theorem yv_X9_queued : YV yX9_queued cX9_queued 4 (some .int) 3 := ⟨⟨by decide +kernel, by decide +kernel, by decide +kernel⟩, wd_972, wd_88, wd_970, wd_971⟩
def f_TT_next (tt : T_TT) (pa : T_Pa) (pr : T_Pg) : Option (Int32) :=
  (bd (f_Pa_upcoming pa pr) fun (r1 : Int32) => (some r1))
abbrev rm_TT_next : Room := { frames := 5, cells := 0, slots := 0, locals := 107 }
set_option maxRecDepth 100000 in
set_option maxHeartbeats 4000000 in
theorem m_TT_next (l : Launch) (D : va_G) (K : Nat → ClassId) (qo : Nat → Nat) (xtt_reader : Nat) (xtt_image : Nat) (xtt_trial : Nat) (xtt_alone : Nat) (xtt_draft : Nat) (tt : T_TT) (q : Nat → Nat) (pa : T_Pa) (g : Nat → Nat) (pr : T_Pg) {r_ : Int32} (hf : f_TT_next tt pa pr = some r_) : MI l yX9_next cX9_next 1 (some .int) rm_TT_next D K [.ref (qo 0)] (cl_TT K qo xtt_reader (q 0) xtt_image xtt_trial xtt_alone (g 0) xtt_draft tt ++ (cl_Pa K q (g 0) pa ++ (cl_Pg K g pr))) r_ (cl_TT K qo xtt_reader (q 0) xtt_image xtt_trial xtt_alone (g 0) xtt_draft tt ++ (cl_Pa K q (g 0) pa ++ (cl_Pg K g pr))) := by
  refine MI_of (loc0 := [(0, .ref (qo 0))]) (by decide +kernel) rfl (Nat.le_of_ble_eq_true rfl) ?_
  intro p e s m args below meth c A cx
  unfold f_TT_next at hf
  refine r_ws (ws' := [((qo 0), ob 8 [.ref xtt_reader, .ref (q 0), .ref xtt_image, .ref xtt_trial, .ref xtt_alone, .ref (g 0), .ref xtt_draft, .int (TT_kept tt)]), ((q 0), ob 2 [.ref (q 1), .ref (q 2), .ref (q 7), .ref (q 12), .ref (q 17), .ref (q 25), .ref (q 31), .ref (g 0), .int (Pa_done pa), .int (Pa_down pa)]), ((q 1), aI K 8 (Pa_rules pa)), ((q 2), ob 6 [.ref (q 3), .ref (q 4), .ref (q 5), .ref (q 6), .int (St_place (Pa_leader pa)), .int (St_steps (Pa_leader pa))]), ((q 3), aI K 8 (St_registers (Pa_leader pa))), ((q 4), aI K 4 (St_floats (Pa_leader pa))), ((q 5), aI K 8 (St_stuckMask (Pa_leader pa))), ((q 6), aI K 8 (St_stuckOnes (Pa_leader pa))), ((q 7), ob 6 [.ref (q 8), .ref (q 9), .ref (q 10), .ref (q 11), .int (St_place (Pa_trailer pa)), .int (St_steps (Pa_trailer pa))]), ((q 8), aI K 8 (St_registers (Pa_trailer pa))), ((q 9), aI K 4 (St_floats (Pa_trailer pa))), ((q 10), aI K 8 (St_stuckMask (Pa_trailer pa))), ((q 11), aI K 8 (St_stuckOnes (Pa_trailer pa))), ((q 12), ob 6 [.ref (q 13), .ref (q 14), .ref (q 15), .ref (q 16), .int (St_place (Pa_point pa)), .int (St_steps (Pa_point pa))]), ((q 13), aI K 8 (St_registers (Pa_point pa))), ((q 14), aI K 4 (St_floats (Pa_point pa))), ((q 15), aI K 8 (St_stuckMask (Pa_point pa))), ((q 16), aI K 8 (St_stuckOnes (Pa_point pa))), ((q 17), ob 4 [.ref (q 18), .ref (q 19), .ref (q 20), .ref (q 21), .ref (q 22), .ref (q 23), .ref (q 24), .int (Qu_firstLoad (Pa_queues pa)), .int (Qu_loads (Pa_queues pa)), .int (Qu_firstBranch (Pa_queues pa)), .int (Qu_branches (Pa_queues pa)), .int (Qu_held (Pa_queues pa)), .int (Qu_comparedHeld (Pa_queues pa))]), ((q 18), aI K 8 (Qu_loadAddress (Pa_queues pa))), ((q 19), aI K 8 (Qu_loadWord (Pa_queues pa))), ((q 20), aI K 8 (Qu_branch (Pa_queues pa))), ((q 21), aI K 8 (Qu_heldAddress (Pa_queues pa))), ((q 22), aI K 8 (Qu_heldWord (Pa_queues pa))), ((q 23), aI K 8 (Qu_besideAddress (Pa_queues pa))), ((q 24), aI K 8 (Qu_besideWord (Pa_queues pa))), ((q 25), ob 1 [.ref (q 26), .ref (q 27), .ref (q 28), .ref (q 29), .ref (q 30), .int (Ou_stores (Pa_outside pa)), .int (Ou_outputs (Pa_outside pa))]), ((q 26), aI K 32 (Ou_memory (Pa_outside pa))), ((q 27), aI K 40 (Ou_output (Pa_outside pa))), ((q 28), aI K 16 (Ou_leftAddress (Pa_outside pa))), ((q 29), aI K 16 (Ou_leftWord (Pa_outside pa))), ((q 30), aI K 16 (Ou_leftPoint (Pa_outside pa))), ((q 31), ob 7 [.ref (q 32), .ref (q 33), .ref (q 34), .ref (q 35), .int (Ta_turns (Pa_tally pa)), .int (Ta_points (Pa_tally pa)), .int (Ta_alarms (Pa_tally pa)), .int (Ta_alarmsSincePoint (Pa_tally pa)), .int (Ta_greatestAhead (Pa_tally pa)), .int (Ta_aheadSum (Pa_tally pa)), .int (Ta_leaderTurns (Pa_tally pa)), .int (Ta_trailerTurns (Pa_tally pa)), .int (Ta_comparedSteps (Pa_tally pa))]), ((q 32), aI K 8 (Ta_alarmSort (Pa_tally pa))), ((q 33), aI K 8 (Ta_alarmTurn (Pa_tally pa))), ((q 34), aI K 8 (Ta_alarmLeaderSteps (Pa_tally pa))), ((q 35), aI K 8 (Ta_alarmTrailerSteps (Pa_tally pa))), ((g 0), ob 3 [.ref (g 1), .ref (g 2), .ref (g 3), .ref (g 4), .ref (g 5), .ref (g 6), .ref (g 7), .ref (g 8), .int (Pg_nameCount pr), .int (Pg_size pr), .int (Pg_lines pr)]), ((g 1), aI K 64 (Pg_code pr)), ((g 2), aI K 64 (Pg_first pr)), ((g 3), aI K 64 (Pg_second pr)), ((g 4), aI K 64 (Pg_third pr)), ((g 5), aI K 8 (Pg_rules pr)), ((g 6), aI K 32 (Pg_data pr)), ((g 7), aI K 140 (Pg_names pr)), ((g 8), aI K 140 (Pg_namedPlaces pr))]) rfl ?_
  refine r_aload_n (pc := 0) cx dX9_next_0 0 rfl ?_
  refine r_get (pc := 1) cx cf_X9 0 1 rfl (by decide) rfl wd_576 dX9_next_1 ?_
  obtain ⟨r1, hc2, hf⟩ := bd_of hf
  refine r_Vi (pc := 4) (ws' := [((qo 0), ob 8 [.ref xtt_reader, .ref (q 0), .ref xtt_image, .ref xtt_trial, .ref xtt_alone, .ref (g 0), .ref xtt_draft, .int (TT_kept tt)]), ((q 0), ob 2 [.ref (q 1), .ref (q 2), .ref (q 7), .ref (q 12), .ref (q 17), .ref (q 25), .ref (q 31), .ref (g 0), .int (Pa_done pa), .int (Pa_down pa)]), ((q 1), aI K 8 (Pa_rules pa)), ((q 2), ob 6 [.ref (q 3), .ref (q 4), .ref (q 5), .ref (q 6), .int (St_place (Pa_leader pa)), .int (St_steps (Pa_leader pa))]), ((q 3), aI K 8 (St_registers (Pa_leader pa))), ((q 4), aI K 4 (St_floats (Pa_leader pa))), ((q 5), aI K 8 (St_stuckMask (Pa_leader pa))), ((q 6), aI K 8 (St_stuckOnes (Pa_leader pa))), ((q 7), ob 6 [.ref (q 8), .ref (q 9), .ref (q 10), .ref (q 11), .int (St_place (Pa_trailer pa)), .int (St_steps (Pa_trailer pa))]), ((q 8), aI K 8 (St_registers (Pa_trailer pa))), ((q 9), aI K 4 (St_floats (Pa_trailer pa))), ((q 10), aI K 8 (St_stuckMask (Pa_trailer pa))), ((q 11), aI K 8 (St_stuckOnes (Pa_trailer pa))), ((q 12), ob 6 [.ref (q 13), .ref (q 14), .ref (q 15), .ref (q 16), .int (St_place (Pa_point pa)), .int (St_steps (Pa_point pa))]), ((q 13), aI K 8 (St_registers (Pa_point pa))), ((q 14), aI K 4 (St_floats (Pa_point pa))), ((q 15), aI K 8 (St_stuckMask (Pa_point pa))), ((q 16), aI K 8 (St_stuckOnes (Pa_point pa))), ((q 17), ob 4 [.ref (q 18), .ref (q 19), .ref (q 20), .ref (q 21), .ref (q 22), .ref (q 23), .ref (q 24), .int (Qu_firstLoad (Pa_queues pa)), .int (Qu_loads (Pa_queues pa)), .int (Qu_firstBranch (Pa_queues pa)), .int (Qu_branches (Pa_queues pa)), .int (Qu_held (Pa_queues pa)), .int (Qu_comparedHeld (Pa_queues pa))]), ((q 18), aI K 8 (Qu_loadAddress (Pa_queues pa))), ((q 19), aI K 8 (Qu_loadWord (Pa_queues pa))), ((q 20), aI K 8 (Qu_branch (Pa_queues pa))), ((q 21), aI K 8 (Qu_heldAddress (Pa_queues pa))), ((q 22), aI K 8 (Qu_heldWord (Pa_queues pa))), ((q 23), aI K 8 (Qu_besideAddress (Pa_queues pa))), ((q 24), aI K 8 (Qu_besideWord (Pa_queues pa))), ((q 25), ob 1 [.ref (q 26), .ref (q 27), .ref (q 28), .ref (q 29), .ref (q 30), .int (Ou_stores (Pa_outside pa)), .int (Ou_outputs (Pa_outside pa))]), ((q 26), aI K 32 (Ou_memory (Pa_outside pa))), ((q 27), aI K 40 (Ou_output (Pa_outside pa))), ((q 28), aI K 16 (Ou_leftAddress (Pa_outside pa))), ((q 29), aI K 16 (Ou_leftWord (Pa_outside pa))), ((q 30), aI K 16 (Ou_leftPoint (Pa_outside pa))), ((q 31), ob 7 [.ref (q 32), .ref (q 33), .ref (q 34), .ref (q 35), .int (Ta_turns (Pa_tally pa)), .int (Ta_points (Pa_tally pa)), .int (Ta_alarms (Pa_tally pa)), .int (Ta_alarmsSincePoint (Pa_tally pa)), .int (Ta_greatestAhead (Pa_tally pa)), .int (Ta_aheadSum (Pa_tally pa)), .int (Ta_leaderTurns (Pa_tally pa)), .int (Ta_trailerTurns (Pa_tally pa)), .int (Ta_comparedSteps (Pa_tally pa))]), ((q 32), aI K 8 (Ta_alarmSort (Pa_tally pa))), ((q 33), aI K 8 (Ta_alarmTurn (Pa_tally pa))), ((q 34), aI K 8 (Ta_alarmLeaderSteps (Pa_tally pa))), ((q 35), aI K 8 (Ta_alarmTrailerSteps (Pa_tally pa))), ((g 0), ob 3 [.ref (g 1), .ref (g 2), .ref (g 3), .ref (g 4), .ref (g 5), .ref (g 6), .ref (g 7), .ref (g 8), .int (Pg_nameCount pr), .int (Pg_size pr), .int (Pg_lines pr)]), ((g 1), aI K 64 (Pg_code pr)), ((g 2), aI K 64 (Pg_first pr)), ((g 3), aI K 64 (Pg_second pr)), ((g 4), aI K 64 (Pg_third pr)), ((g 5), aI K 8 (Pg_rules pr)), ((g 6), aI K 32 (Pg_data pr)), ((g 7), aI K 140 (Pg_names pr)), ((g 8), aI K 140 (Pg_namedPlaces pr))]) (nn := 45) cx [] [] (m_Pa_upcoming l D K q pa g pr hc2) yv_X3_upcoming wd_989 ⟨rfl, rfl⟩ (by decide) (fr_k (fr_s (j := 0) rfl rfl rfl (fr_s (j := 1) rfl rfl rfl (fr_s (j := 2) rfl rfl rfl (fr_s (j := 3) rfl rfl rfl (fr_s (j := 4) rfl rfl rfl (fr_s (j := 5) rfl rfl rfl (fr_s (j := 6) rfl rfl rfl (fr_s (j := 7) rfl rfl rfl (fr_s (j := 8) rfl rfl rfl (fr_s (j := 9) rfl rfl rfl (fr_s (j := 10) rfl rfl rfl (fr_s (j := 11) rfl rfl rfl (fr_s (j := 12) rfl rfl rfl (fr_s (j := 13) rfl rfl rfl (fr_s (j := 14) rfl rfl rfl (fr_s (j := 15) rfl rfl rfl (fr_s (j := 16) rfl rfl rfl (fr_s (j := 17) rfl rfl rfl (fr_s (j := 18) rfl rfl rfl (fr_s (j := 19) rfl rfl rfl (fr_s (j := 20) rfl rfl rfl (fr_s (j := 21) rfl rfl rfl (fr_s (j := 22) rfl rfl rfl (fr_s (j := 23) rfl rfl rfl (fr_s (j := 24) rfl rfl rfl (fr_s (j := 25) rfl rfl rfl (fr_s (j := 26) rfl rfl rfl (fr_s (j := 27) rfl rfl rfl (fr_s (j := 28) rfl rfl rfl (fr_s (j := 29) rfl rfl rfl (fr_s (j := 30) rfl rfl rfl (fr_s (j := 31) rfl rfl rfl (fr_s (j := 32) rfl rfl rfl (fr_s (j := 33) rfl rfl rfl (fr_s (j := 34) rfl rfl rfl (fr_s (j := 35) rfl rfl rfl (fr_s (j := 36) rfl rfl rfl (fr_s (j := 37) rfl rfl rfl (fr_s (j := 38) rfl rfl rfl (fr_s (j := 39) rfl rfl rfl (fr_s (j := 40) rfl rfl rfl (fr_s (j := 41) rfl rfl rfl (fr_s (j := 42) rfl rfl rfl (fr_s (j := 43) rfl rfl rfl (fr_s (j := 44) rfl rfl rfl (fr_n))))))))))))))))))))))))))))))))))))))))))))))) rfl (by decide) 1 rfl rfl rfl (Nat.le_of_ble_eq_true rfl) dX9_next_4 ?_
  cases hf
  exact r_iret (pc := 7) cx rfl rfl dX9_next_7
theorem yv_X9_next : YV yX9_next cX9_next 1 (some .int) 0 := ⟨⟨by decide +kernel, by decide +kernel, by decide +kernel⟩, wd_988, wd_88, wd_986, wd_987⟩
def f_TT_alarm (tt : T_TT) (pa : T_Pa) (a1 : Int32) (a2 : Int32) : Option (Int32) :=
  (bd (f_Ta_alarmPart (Pa_tally pa) a1 a2) fun (r1 : Int32) => (some r1))
abbrev rm_TT_alarm : Room := { frames := 1, cells := 0, slots := 0, locals := 23 }
set_option maxRecDepth 100000 in
set_option maxHeartbeats 4000000 in
theorem m_TT_alarm (l : Launch) (D : va_G) (K : Nat → ClassId) (qo : Nat → Nat) (xtt_reader : Nat) (xtt_image : Nat) (xtt_trial : Nat) (xtt_alone : Nat) (xtt_program : Nat) (xtt_draft : Nat) (tt : T_TT) (q : Nat → Nat) (xpa_program : Nat) (pa : T_Pa) (a1 : Int32) (a2 : Int32) {r_ : Int32} (hf : f_TT_alarm tt pa a1 a2 = some r_) : MI l yX9_alarm cX9_alarm 3 (some .int) rm_TT_alarm D K [.ref (qo 0), .int a1, .int a2] (cl_TT K qo xtt_reader (q 0) xtt_image xtt_trial xtt_alone xtt_program xtt_draft tt ++ (cl_Pa K q xpa_program pa)) r_ (cl_TT K qo xtt_reader (q 0) xtt_image xtt_trial xtt_alone xtt_program xtt_draft tt ++ (cl_Pa K q xpa_program pa)) := by
  refine MI_of (loc0 := [(0, .ref (qo 0)), (1, .int a1), (2, .int a2)]) (by decide +kernel) rfl (Nat.le_of_ble_eq_true rfl) ?_
  intro p e s m args below meth c A cx
  unfold f_TT_alarm at hf
  refine r_ws (ws' := [((qo 0), ob 8 [.ref xtt_reader, .ref (q 0), .ref xtt_image, .ref xtt_trial, .ref xtt_alone, .ref xtt_program, .ref xtt_draft, .int (TT_kept tt)]), ((q 0), ob 2 [.ref (q 1), .ref (q 2), .ref (q 7), .ref (q 12), .ref (q 17), .ref (q 25), .ref (q 31), .ref xpa_program, .int (Pa_done pa), .int (Pa_down pa)]), ((q 1), aI K 8 (Pa_rules pa)), ((q 2), ob 6 [.ref (q 3), .ref (q 4), .ref (q 5), .ref (q 6), .int (St_place (Pa_leader pa)), .int (St_steps (Pa_leader pa))]), ((q 3), aI K 8 (St_registers (Pa_leader pa))), ((q 4), aI K 4 (St_floats (Pa_leader pa))), ((q 5), aI K 8 (St_stuckMask (Pa_leader pa))), ((q 6), aI K 8 (St_stuckOnes (Pa_leader pa))), ((q 7), ob 6 [.ref (q 8), .ref (q 9), .ref (q 10), .ref (q 11), .int (St_place (Pa_trailer pa)), .int (St_steps (Pa_trailer pa))]), ((q 8), aI K 8 (St_registers (Pa_trailer pa))), ((q 9), aI K 4 (St_floats (Pa_trailer pa))), ((q 10), aI K 8 (St_stuckMask (Pa_trailer pa))), ((q 11), aI K 8 (St_stuckOnes (Pa_trailer pa))), ((q 12), ob 6 [.ref (q 13), .ref (q 14), .ref (q 15), .ref (q 16), .int (St_place (Pa_point pa)), .int (St_steps (Pa_point pa))]), ((q 13), aI K 8 (St_registers (Pa_point pa))), ((q 14), aI K 4 (St_floats (Pa_point pa))), ((q 15), aI K 8 (St_stuckMask (Pa_point pa))), ((q 16), aI K 8 (St_stuckOnes (Pa_point pa))), ((q 17), ob 4 [.ref (q 18), .ref (q 19), .ref (q 20), .ref (q 21), .ref (q 22), .ref (q 23), .ref (q 24), .int (Qu_firstLoad (Pa_queues pa)), .int (Qu_loads (Pa_queues pa)), .int (Qu_firstBranch (Pa_queues pa)), .int (Qu_branches (Pa_queues pa)), .int (Qu_held (Pa_queues pa)), .int (Qu_comparedHeld (Pa_queues pa))]), ((q 18), aI K 8 (Qu_loadAddress (Pa_queues pa))), ((q 19), aI K 8 (Qu_loadWord (Pa_queues pa))), ((q 20), aI K 8 (Qu_branch (Pa_queues pa))), ((q 21), aI K 8 (Qu_heldAddress (Pa_queues pa))), ((q 22), aI K 8 (Qu_heldWord (Pa_queues pa))), ((q 23), aI K 8 (Qu_besideAddress (Pa_queues pa))), ((q 24), aI K 8 (Qu_besideWord (Pa_queues pa))), ((q 25), ob 1 [.ref (q 26), .ref (q 27), .ref (q 28), .ref (q 29), .ref (q 30), .int (Ou_stores (Pa_outside pa)), .int (Ou_outputs (Pa_outside pa))]), ((q 26), aI K 32 (Ou_memory (Pa_outside pa))), ((q 27), aI K 40 (Ou_output (Pa_outside pa))), ((q 28), aI K 16 (Ou_leftAddress (Pa_outside pa))), ((q 29), aI K 16 (Ou_leftWord (Pa_outside pa))), ((q 30), aI K 16 (Ou_leftPoint (Pa_outside pa))), ((q 31), ob 7 [.ref (q 32), .ref (q 33), .ref (q 34), .ref (q 35), .int (Ta_turns (Pa_tally pa)), .int (Ta_points (Pa_tally pa)), .int (Ta_alarms (Pa_tally pa)), .int (Ta_alarmsSincePoint (Pa_tally pa)), .int (Ta_greatestAhead (Pa_tally pa)), .int (Ta_aheadSum (Pa_tally pa)), .int (Ta_leaderTurns (Pa_tally pa)), .int (Ta_trailerTurns (Pa_tally pa)), .int (Ta_comparedSteps (Pa_tally pa))]), ((q 32), aI K 8 (Ta_alarmSort (Pa_tally pa))), ((q 33), aI K 8 (Ta_alarmTurn (Pa_tally pa))), ((q 34), aI K 8 (Ta_alarmLeaderSteps (Pa_tally pa))), ((q 35), aI K 8 (Ta_alarmTrailerSteps (Pa_tally pa)))]) rfl ?_
  refine r_aload_n (pc := 0) cx dX9_alarm_0 0 rfl ?_
  refine r_get (pc := 1) cx cf_X9 0 1 rfl (by decide) rfl wd_576 dX9_alarm_1 ?_
  refine r_get (pc := 4) cx cf_X3 1 6 rfl (by decide) rfl wd_523 dX9_alarm_4 ?_
  refine r_iload_n (pc := 7) cx dX9_alarm_7 1 rfl ?_
  refine r_iload_n (pc := 8) cx dX9_alarm_8 2 rfl ?_
  obtain ⟨r1, hc2, hf⟩ := bd_of hf
  refine r_Vi (pc := 9) (ws' := [((qo 0), ob 8 [.ref xtt_reader, .ref (q 0), .ref xtt_image, .ref xtt_trial, .ref xtt_alone, .ref xtt_program, .ref xtt_draft, .int (TT_kept tt)]), ((q 0), ob 2 [.ref (q 1), .ref (q 2), .ref (q 7), .ref (q 12), .ref (q 17), .ref (q 25), .ref (q 31), .ref xpa_program, .int (Pa_done pa), .int (Pa_down pa)]), ((q 1), aI K 8 (Pa_rules pa)), ((q 2), ob 6 [.ref (q 3), .ref (q 4), .ref (q 5), .ref (q 6), .int (St_place (Pa_leader pa)), .int (St_steps (Pa_leader pa))]), ((q 3), aI K 8 (St_registers (Pa_leader pa))), ((q 4), aI K 4 (St_floats (Pa_leader pa))), ((q 5), aI K 8 (St_stuckMask (Pa_leader pa))), ((q 6), aI K 8 (St_stuckOnes (Pa_leader pa))), ((q 7), ob 6 [.ref (q 8), .ref (q 9), .ref (q 10), .ref (q 11), .int (St_place (Pa_trailer pa)), .int (St_steps (Pa_trailer pa))]), ((q 8), aI K 8 (St_registers (Pa_trailer pa))), ((q 9), aI K 4 (St_floats (Pa_trailer pa))), ((q 10), aI K 8 (St_stuckMask (Pa_trailer pa))), ((q 11), aI K 8 (St_stuckOnes (Pa_trailer pa))), ((q 12), ob 6 [.ref (q 13), .ref (q 14), .ref (q 15), .ref (q 16), .int (St_place (Pa_point pa)), .int (St_steps (Pa_point pa))]), ((q 13), aI K 8 (St_registers (Pa_point pa))), ((q 14), aI K 4 (St_floats (Pa_point pa))), ((q 15), aI K 8 (St_stuckMask (Pa_point pa))), ((q 16), aI K 8 (St_stuckOnes (Pa_point pa))), ((q 17), ob 4 [.ref (q 18), .ref (q 19), .ref (q 20), .ref (q 21), .ref (q 22), .ref (q 23), .ref (q 24), .int (Qu_firstLoad (Pa_queues pa)), .int (Qu_loads (Pa_queues pa)), .int (Qu_firstBranch (Pa_queues pa)), .int (Qu_branches (Pa_queues pa)), .int (Qu_held (Pa_queues pa)), .int (Qu_comparedHeld (Pa_queues pa))]), ((q 18), aI K 8 (Qu_loadAddress (Pa_queues pa))), ((q 19), aI K 8 (Qu_loadWord (Pa_queues pa))), ((q 20), aI K 8 (Qu_branch (Pa_queues pa))), ((q 21), aI K 8 (Qu_heldAddress (Pa_queues pa))), ((q 22), aI K 8 (Qu_heldWord (Pa_queues pa))), ((q 23), aI K 8 (Qu_besideAddress (Pa_queues pa))), ((q 24), aI K 8 (Qu_besideWord (Pa_queues pa))), ((q 25), ob 1 [.ref (q 26), .ref (q 27), .ref (q 28), .ref (q 29), .ref (q 30), .int (Ou_stores (Pa_outside pa)), .int (Ou_outputs (Pa_outside pa))]), ((q 26), aI K 32 (Ou_memory (Pa_outside pa))), ((q 27), aI K 40 (Ou_output (Pa_outside pa))), ((q 28), aI K 16 (Ou_leftAddress (Pa_outside pa))), ((q 29), aI K 16 (Ou_leftWord (Pa_outside pa))), ((q 30), aI K 16 (Ou_leftPoint (Pa_outside pa))), ((q 31), ob 7 [.ref (q 32), .ref (q 33), .ref (q 34), .ref (q 35), .int (Ta_turns (Pa_tally pa)), .int (Ta_points (Pa_tally pa)), .int (Ta_alarms (Pa_tally pa)), .int (Ta_alarmsSincePoint (Pa_tally pa)), .int (Ta_greatestAhead (Pa_tally pa)), .int (Ta_aheadSum (Pa_tally pa)), .int (Ta_leaderTurns (Pa_tally pa)), .int (Ta_trailerTurns (Pa_tally pa)), .int (Ta_comparedSteps (Pa_tally pa))]), ((q 32), aI K 8 (Ta_alarmSort (Pa_tally pa))), ((q 33), aI K 8 (Ta_alarmTurn (Pa_tally pa))), ((q 34), aI K 8 (Ta_alarmLeaderSteps (Pa_tally pa))), ((q 35), aI K 8 (Ta_alarmTrailerSteps (Pa_tally pa)))]) (nn := 5) cx [.int a1, .int a2] [] (m_Ta_alarmPart l D K (fun i => q (i + 31)) (Pa_tally pa) a1 a2 hc2) yv_X8_alarmPart wd_994 ⟨rfl, rfl⟩ (by decide) (fr_k (fr_k (fr_k (fr_k (fr_k (fr_k (fr_k (fr_k (fr_k (fr_k (fr_k (fr_k (fr_k (fr_k (fr_k (fr_k (fr_k (fr_k (fr_k (fr_k (fr_k (fr_k (fr_k (fr_k (fr_k (fr_k (fr_k (fr_k (fr_k (fr_k (fr_k (fr_k (fr_s (j := 0) rfl rfl rfl (fr_s (j := 1) rfl rfl rfl (fr_s (j := 2) rfl rfl rfl (fr_s (j := 3) rfl rfl rfl (fr_s (j := 4) rfl rfl rfl (fr_n)))))))))))))))))))))))))))))))))))))) rfl (by decide) 32 rfl rfl rfl (Nat.le_of_ble_eq_true rfl) dX9_alarm_9 ?_
  cases hf
  exact r_iret (pc := 12) cx rfl rfl dX9_alarm_12
theorem yv_X9_alarm : YV yX9_alarm cX9_alarm 3 (some .int) 2 := ⟨⟨by decide +kernel, by decide +kernel, by decide +kernel⟩, wd_993, wd_88, wd_991, wd_992⟩
def f_TT_plain (tt : T_TT) (al : T_Al) (pr : T_Pg) (a1 : Int32) (a2 : Int32) : Option (Int32 × T_Al) :=
  (if a1 < (0 : Int32) then (some ((-1 : Int32), al)) else (if (999 : Int32) < a1 then (some ((-1 : Int32), al)) else (if a2 < (0 : Int32) then (some ((-1 : Int32), al)) else (if a2 ≤ (3 : Int32) then (bd (f_Al_beginText al pr) fun (v5 : T_Al) => (bd (f_Al_run v5 pr a1) fun (v7 : T_Al) => (if a2 = (0 : Int32) then (some ((St_place (Al_strand v7)), v7)) else (if a2 = (1 : Int32) then (bd (f_St_isHalted (Al_strand v7) pr) fun (r11 : Int32) => (if r11 = (0 : Int32) then (some ((0 : Int32), v7)) else (some ((1 : Int32), v7)))) else (if a2 = (2 : Int32) then (some ((St_steps (Al_strand v7)), v7)) else (some ((Al_outputs v7), v7))))))) else (some ((-1 : Int32), al))))))
abbrev rm_TT_plain : Room := { frames := 7, cells := 0, slots := 0, locals := 177 }
set_option maxRecDepth 100000 in
set_option maxHeartbeats 4000000 in
theorem m_TT_plain (l : Launch) (D : va_G) (K : Nat → ClassId) (qo : Nat → Nat) (xtt_reader : Nat) (xtt_pair : Nat) (xtt_image : Nat) (xtt_trial : Nat) (xtt_draft : Nat) (tt : T_TT) (qa : Nat → Nat) (al : T_Al) (g : Nat → Nat) (pr : T_Pg) (a1 : Int32) (a2 : Int32) {r_ : Int32} {o_al : T_Al} (hf : f_TT_plain tt al pr a1 a2 = some (r_, o_al)) : MI l yX9_plain cX9_plain 3 (some .int) rm_TT_plain D K [.ref (qo 0), .int a1, .int a2] (cl_TT K qo xtt_reader xtt_pair xtt_image xtt_trial (qa 0) (g 0) xtt_draft tt ++ (cl_Al K qa al ++ (cl_Pg K g pr))) r_ (cl_TT K qo xtt_reader xtt_pair xtt_image xtt_trial (qa 0) (g 0) xtt_draft tt ++ (cl_Al K qa o_al ++ (cl_Pg K g pr))) := by
  refine MI_of (loc0 := [(0, .ref (qo 0)), (1, .int a1), (2, .int a2)]) (by decide +kernel) rfl (Nat.le_of_ble_eq_true rfl) ?_
  intro p e s m args below meth c A cx
  unfold f_TT_plain at hf
  refine r_ws (ws' := [((qo 0), ob 8 [.ref xtt_reader, .ref xtt_pair, .ref xtt_image, .ref xtt_trial, .ref (qa 0), .ref (g 0), .ref xtt_draft, .int (TT_kept tt)]), ((qa 0), ob 0 [.ref (qa 1), .ref (qa 6), .ref (qa 7), .int (Al_outputs al)]), ((qa 1), ob 6 [.ref (qa 2), .ref (qa 3), .ref (qa 4), .ref (qa 5), .int (St_place (Al_strand al)), .int (St_steps (Al_strand al))]), ((qa 2), aI K 8 (St_registers (Al_strand al))), ((qa 3), aI K 4 (St_floats (Al_strand al))), ((qa 4), aI K 8 (St_stuckMask (Al_strand al))), ((qa 5), aI K 8 (St_stuckOnes (Al_strand al))), ((qa 6), aI K 32 (Al_memory al)), ((qa 7), aI K 1000 (Al_output al)), ((g 0), ob 3 [.ref (g 1), .ref (g 2), .ref (g 3), .ref (g 4), .ref (g 5), .ref (g 6), .ref (g 7), .ref (g 8), .int (Pg_nameCount pr), .int (Pg_size pr), .int (Pg_lines pr)]), ((g 1), aI K 64 (Pg_code pr)), ((g 2), aI K 64 (Pg_first pr)), ((g 3), aI K 64 (Pg_second pr)), ((g 4), aI K 64 (Pg_third pr)), ((g 5), aI K 8 (Pg_rules pr)), ((g 6), aI K 32 (Pg_data pr)), ((g 7), aI K 140 (Pg_names pr)), ((g 8), aI K 140 (Pg_namedPlaces pr))]) rfl ?_
  refine r_iload_n (pc := 0) cx dX9_plain_0 1 rfl ?_
  refine r_if_lt (pc := 1) (tgt := 20) cx dX9_plain_1 (by decide) (fun h1 => ?_) (fun h1 => ?_)
  · have hf := ifp h1 hf
    refine r_iconst (pc := 20) cx dX9_plain_20 ic_m1 ?_
    cases hf
    exact r_iret (pc := 21) cx rfl rfl dX9_plain_21
  · have hf := ifn h1 hf
    refine r_iload_n (pc := 4) cx dX9_plain_4 1 rfl ?_
    refine r_sipush (pc := 5) cx dX9_plain_5 sp_999 ?_
    refine r_icmp_gt (pc := 8) (tgt := 20) cx dX9_plain_8 (by decide) (fun h2 => ?_) (fun h2 => ?_)
    · have hf := ifp h2 hf
      refine r_iconst (pc := 20) cx dX9_plain_20 ic_m1 ?_
      cases hf
      exact r_iret (pc := 21) cx rfl rfl dX9_plain_21
    · have hf := ifn h2 hf
      refine r_iload_n (pc := 11) cx dX9_plain_11 2 rfl ?_
      refine r_if_lt (pc := 12) (tgt := 20) cx dX9_plain_12 (by decide) (fun h3 => ?_) (fun h3 => ?_)
      · have hf := ifp h3 hf
        refine r_iconst (pc := 20) cx dX9_plain_20 ic_m1 ?_
        cases hf
        exact r_iret (pc := 21) cx rfl rfl dX9_plain_21
      · have hf := ifn h3 hf
        refine r_iload_n (pc := 15) cx dX9_plain_15 2 rfl ?_
        refine r_iconst (pc := 16) cx dX9_plain_16 ic_3 ?_
        refine r_icmp_le (pc := 17) (tgt := 22) cx dX9_plain_17 (by decide) (fun h4 => ?_) (fun h4 => ?_)
        · have hf := ifp h4 hf
          refine r_aload_n (pc := 22) cx dX9_plain_22 0 rfl ?_
          refine r_get (pc := 23) cx cf_X9 0 4 rfl (by decide) rfl wd_579 dX9_plain_23 ?_
          refine r_aload_n (pc := 26) cx dX9_plain_26 0 rfl ?_
          refine r_get (pc := 27) cx cf_X9 0 5 rfl (by decide) rfl wd_580 dX9_plain_27 ?_
          obtain ⟨v5, hc6, hf⟩ := bd_of hf
          refine r_Vv (pc := 30) (ws' := [((qo 0), ob 8 [.ref xtt_reader, .ref xtt_pair, .ref xtt_image, .ref xtt_trial, .ref (qa 0), .ref (g 0), .ref xtt_draft, .int (TT_kept tt)]), ((qa 0), ob 0 [.ref (qa 1), .ref (qa 6), .ref (qa 7), .int (Al_outputs v5)]), ((qa 1), ob 6 [.ref (qa 2), .ref (qa 3), .ref (qa 4), .ref (qa 5), .int (St_place (Al_strand v5)), .int (St_steps (Al_strand v5))]), ((qa 2), aI K 8 (St_registers (Al_strand v5))), ((qa 3), aI K 4 (St_floats (Al_strand v5))), ((qa 4), aI K 8 (St_stuckMask (Al_strand v5))), ((qa 5), aI K 8 (St_stuckOnes (Al_strand v5))), ((qa 6), aI K 32 (Al_memory v5)), ((qa 7), aI K 1000 (Al_output v5)), ((g 0), ob 3 [.ref (g 1), .ref (g 2), .ref (g 3), .ref (g 4), .ref (g 5), .ref (g 6), .ref (g 7), .ref (g 8), .int (Pg_nameCount pr), .int (Pg_size pr), .int (Pg_lines pr)]), ((g 1), aI K 64 (Pg_code pr)), ((g 2), aI K 64 (Pg_first pr)), ((g 3), aI K 64 (Pg_second pr)), ((g 4), aI K 64 (Pg_third pr)), ((g 5), aI K 8 (Pg_rules pr)), ((g 6), aI K 32 (Pg_data pr)), ((g 7), aI K 140 (Pg_names pr)), ((g 8), aI K 140 (Pg_namedPlaces pr))]) (nn := 17) cx [.ref (g 0)] [] (m_Al_beginText l D K qa al g pr hc6) yv_X0_beginText wd_1002 ⟨rfl, rfl⟩ (by decide) (fr_k (fr_s (j := 0) rfl rfl rfl (fr_s (j := 1) rfl rfl rfl (fr_s (j := 2) rfl rfl rfl (fr_s (j := 3) rfl rfl rfl (fr_s (j := 4) rfl rfl rfl (fr_s (j := 5) rfl rfl rfl (fr_s (j := 6) rfl rfl rfl (fr_s (j := 7) rfl rfl rfl (fr_s (j := 8) rfl rfl rfl (fr_s (j := 9) rfl rfl rfl (fr_s (j := 10) rfl rfl rfl (fr_s (j := 11) rfl rfl rfl (fr_s (j := 12) rfl rfl rfl (fr_s (j := 13) rfl rfl rfl (fr_s (j := 14) rfl rfl rfl (fr_s (j := 15) rfl rfl rfl (fr_s (j := 16) rfl rfl rfl (fr_n))))))))))))))))))) rfl (by decide) 1 rfl rfl rfl (Nat.le_of_ble_eq_true rfl) dX9_plain_30 ?_
          refine r_aload_n (pc := 33) cx dX9_plain_33 0 rfl ?_
          refine r_get (pc := 34) cx cf_X9 0 4 rfl (by decide) rfl wd_579 dX9_plain_34 ?_
          refine r_aload_n (pc := 37) cx dX9_plain_37 0 rfl ?_
          refine r_get (pc := 38) cx cf_X9 0 5 rfl (by decide) rfl wd_580 dX9_plain_38 ?_
          refine r_iload_n (pc := 41) cx dX9_plain_41 1 rfl ?_
          obtain ⟨v7, hc8, hf⟩ := bd_of hf
          refine r_Vv (pc := 42) (ws' := [((qo 0), ob 8 [.ref xtt_reader, .ref xtt_pair, .ref xtt_image, .ref xtt_trial, .ref (qa 0), .ref (g 0), .ref xtt_draft, .int (TT_kept tt)]), ((qa 0), ob 0 [.ref (qa 1), .ref (qa 6), .ref (qa 7), .int (Al_outputs v7)]), ((qa 1), ob 6 [.ref (qa 2), .ref (qa 3), .ref (qa 4), .ref (qa 5), .int (St_place (Al_strand v7)), .int (St_steps (Al_strand v7))]), ((qa 2), aI K 8 (St_registers (Al_strand v7))), ((qa 3), aI K 4 (St_floats (Al_strand v7))), ((qa 4), aI K 8 (St_stuckMask (Al_strand v7))), ((qa 5), aI K 8 (St_stuckOnes (Al_strand v7))), ((qa 6), aI K 32 (Al_memory v7)), ((qa 7), aI K 1000 (Al_output v7)), ((g 0), ob 3 [.ref (g 1), .ref (g 2), .ref (g 3), .ref (g 4), .ref (g 5), .ref (g 6), .ref (g 7), .ref (g 8), .int (Pg_nameCount pr), .int (Pg_size pr), .int (Pg_lines pr)]), ((g 1), aI K 64 (Pg_code pr)), ((g 2), aI K 64 (Pg_first pr)), ((g 3), aI K 64 (Pg_second pr)), ((g 4), aI K 64 (Pg_third pr)), ((g 5), aI K 8 (Pg_rules pr)), ((g 6), aI K 32 (Pg_data pr)), ((g 7), aI K 140 (Pg_names pr)), ((g 8), aI K 140 (Pg_namedPlaces pr))]) (nn := 17) cx [.ref (g 0), .int a1] [] (m_Al_run l D K qa v5 g pr a1 hc8) yv_X0_run wd_1008 ⟨rfl, rfl⟩ (by decide) (fr_k (fr_s (j := 0) rfl rfl rfl (fr_s (j := 1) rfl rfl rfl (fr_s (j := 2) rfl rfl rfl (fr_s (j := 3) rfl rfl rfl (fr_s (j := 4) rfl rfl rfl (fr_s (j := 5) rfl rfl rfl (fr_s (j := 6) rfl rfl rfl (fr_s (j := 7) rfl rfl rfl (fr_s (j := 8) rfl rfl rfl (fr_s (j := 9) rfl rfl rfl (fr_s (j := 10) rfl rfl rfl (fr_s (j := 11) rfl rfl rfl (fr_s (j := 12) rfl rfl rfl (fr_s (j := 13) rfl rfl rfl (fr_s (j := 14) rfl rfl rfl (fr_s (j := 15) rfl rfl rfl (fr_s (j := 16) rfl rfl rfl (fr_n))))))))))))))))))) rfl (by decide) 1 rfl rfl rfl (Nat.le_of_ble_eq_true rfl) dX9_plain_42 ?_
          refine r_iload_n (pc := 45) cx dX9_plain_45 2 rfl ?_
          by_cases h9 : a2 = (0 : Int32)
          · have hf := ifp h9 hf
            refine r_tin (pc := 46) (tgt := 72) cx (0 : Int32) h9 dX9_plain_46 (by decide) (by decide) rfl (by decide) ?_
            refine r_aload_n (pc := 72) cx dX9_plain_72 0 rfl ?_
            refine r_get (pc := 73) cx cf_X9 0 4 rfl (by decide) rfl wd_579 dX9_plain_73 ?_
            refine r_get (pc := 76) cx cf_X0 1 0 rfl (by decide) rfl wd_559 dX9_plain_76 ?_
            refine r_get (pc := 79) cx cf_X7 2 4 rfl (by decide) rfl wd_320 dX9_plain_79 ?_
            cases hf
            exact r_iret (pc := 82) cx rfl rfl dX9_plain_82
          · have hf := ifn h9 hf
            by_cases h10 : a2 = (1 : Int32)
            · have hf := ifp h10 hf
              refine r_tin (pc := 46) (tgt := 83) cx (1 : Int32) h10 dX9_plain_46 (by decide) (by decide) rfl (by decide) ?_
              refine r_aload_n (pc := 83) cx dX9_plain_83 0 rfl ?_
              refine r_get (pc := 84) cx cf_X9 0 4 rfl (by decide) rfl wd_579 dX9_plain_84 ?_
              refine r_get (pc := 87) cx cf_X0 1 0 rfl (by decide) rfl wd_559 dX9_plain_87 ?_
              refine r_aload_n (pc := 90) cx dX9_plain_90 0 rfl ?_
              refine r_get (pc := 91) cx cf_X9 0 5 rfl (by decide) rfl wd_580 dX9_plain_91 ?_
              obtain ⟨r11, hc12, hf⟩ := bd_of hf
              refine r_Vi (pc := 94) (ws' := [((qo 0), ob 8 [.ref xtt_reader, .ref xtt_pair, .ref xtt_image, .ref xtt_trial, .ref (qa 0), .ref (g 0), .ref xtt_draft, .int (TT_kept tt)]), ((qa 0), ob 0 [.ref (qa 1), .ref (qa 6), .ref (qa 7), .int (Al_outputs v7)]), ((qa 1), ob 6 [.ref (qa 2), .ref (qa 3), .ref (qa 4), .ref (qa 5), .int (St_place (Al_strand v7)), .int (St_steps (Al_strand v7))]), ((qa 2), aI K 8 (St_registers (Al_strand v7))), ((qa 3), aI K 4 (St_floats (Al_strand v7))), ((qa 4), aI K 8 (St_stuckMask (Al_strand v7))), ((qa 5), aI K 8 (St_stuckOnes (Al_strand v7))), ((qa 6), aI K 32 (Al_memory v7)), ((qa 7), aI K 1000 (Al_output v7)), ((g 0), ob 3 [.ref (g 1), .ref (g 2), .ref (g 3), .ref (g 4), .ref (g 5), .ref (g 6), .ref (g 7), .ref (g 8), .int (Pg_nameCount pr), .int (Pg_size pr), .int (Pg_lines pr)]), ((g 1), aI K 64 (Pg_code pr)), ((g 2), aI K 64 (Pg_first pr)), ((g 3), aI K 64 (Pg_second pr)), ((g 4), aI K 64 (Pg_third pr)), ((g 5), aI K 8 (Pg_rules pr)), ((g 6), aI K 32 (Pg_data pr)), ((g 7), aI K 140 (Pg_names pr)), ((g 8), aI K 140 (Pg_namedPlaces pr))]) (nn := 14) cx [.ref (g 0)] [] (m_St_isHalted l D K (fun i => qa (i + 1)) (Al_strand v7) g pr hc12) yv_X7_isHalted wd_1024 ⟨rfl, rfl⟩ (by decide) (fr_k (fr_k (fr_s (j := 0) rfl rfl rfl (fr_s (j := 1) rfl rfl rfl (fr_s (j := 2) rfl rfl rfl (fr_s (j := 3) rfl rfl rfl (fr_s (j := 4) rfl rfl rfl (fr_k (fr_k (fr_s (j := 5) rfl rfl rfl (fr_s (j := 6) rfl rfl rfl (fr_s (j := 7) rfl rfl rfl (fr_s (j := 8) rfl rfl rfl (fr_s (j := 9) rfl rfl rfl (fr_s (j := 10) rfl rfl rfl (fr_s (j := 11) rfl rfl rfl (fr_s (j := 12) rfl rfl rfl (fr_s (j := 13) rfl rfl rfl (fr_n))))))))))))))))))) rfl (by decide) 2 rfl rfl rfl (Nat.le_of_ble_eq_true rfl) dX9_plain_94 ?_
              refine r_if_eq (pc := 97) (tgt := 104) cx dX9_plain_97 (by decide) (fun h13 => ?_) (fun h13 => ?_)
              · have hf := ifp h13 hf
                refine r_iconst (pc := 104) cx dX9_plain_104 ic_0 ?_
                cases hf
                exact r_iret (pc := 105) cx rfl rfl dX9_plain_105
              · have hf := ifn h13 hf
                refine r_iconst (pc := 100) cx dX9_plain_100 ic_1 ?_
                refine r_goto (pc := 101) (tgt := 105) cx dX9_plain_101 (by decide) ?_
                cases hf
                exact r_iret (pc := 105) cx rfl rfl dX9_plain_105
            · have hf := ifn h10 hf
              by_cases h14 : a2 = (2 : Int32)
              · have hf := ifp h14 hf
                refine r_tin (pc := 46) (tgt := 106) cx (2 : Int32) h14 dX9_plain_46 (by decide) (by decide) rfl (by decide) ?_
                refine r_aload_n (pc := 106) cx dX9_plain_106 0 rfl ?_
                refine r_get (pc := 107) cx cf_X9 0 4 rfl (by decide) rfl wd_579 dX9_plain_107 ?_
                refine r_get (pc := 110) cx cf_X0 1 0 rfl (by decide) rfl wd_559 dX9_plain_110 ?_
                refine r_get (pc := 113) cx cf_X7 2 5 rfl (by decide) rfl wd_323 dX9_plain_113 ?_
                cases hf
                exact r_iret (pc := 116) cx rfl rfl dX9_plain_116
              · have hf := ifn h14 hf
                refine r_tout (pc := 46) (tgt := 117) cx dX9_plain_46 (by
                  have nh9 := toInt_ne h9
                  have mh9 : (0 : Int32).toInt = 0 := by decide
                  rw [mh9] at nh9
                  have nh10 := toInt_ne h10
                  have mh10 : (1 : Int32).toInt = 1 := by decide
                  rw [mh10] at nh10
                  have nh14 := toInt_ne h14
                  have mh14 : (2 : Int32).toInt = 2 := by decide
                  rw [mh14] at nh14
                  omega) (by decide) ?_
                refine r_aload_n (pc := 117) cx dX9_plain_117 0 rfl ?_
                refine r_get (pc := 118) cx cf_X9 0 4 rfl (by decide) rfl wd_579 dX9_plain_118 ?_
                refine r_get (pc := 121) cx cf_X0 1 3 rfl (by decide) rfl wd_565 dX9_plain_121 ?_
                cases hf
                exact r_iret (pc := 124) cx rfl rfl dX9_plain_124
        · have hf := ifn h4 hf
          refine r_iconst (pc := 20) cx dX9_plain_20 ic_m1 ?_
          cases hf
          exact r_iret (pc := 21) cx rfl rfl dX9_plain_21
theorem yv_X9_plain : YV yX9_plain cX9_plain 3 (some .int) 2 := ⟨⟨by decide +kernel, by decide +kernel, by decide +kernel⟩, wd_1001, wd_88, wd_999, wd_1000⟩
def f_TT_plainOf (tt : T_TT) (al : T_Al) (pr : T_Pg) (a1 : Int32) (a2 : Int32) (a3 : Int32) : Option (Int32 × T_Al) :=
  (if a1 < (0 : Int32) then (some ((0 : Int32), al)) else (if (999 : Int32) < a1 then (some ((0 : Int32), al)) else (if (0 : Int32) ≤ a3 then (bd (f_Al_beginText al pr) fun (v4 : T_Al) => (bd (f_Al_run v4 pr a1) fun (v6 : T_Al) => (if a2 = (0 : Int32) then (if a3 ≤ (7 : Int32) then (if ix a3 8 then (some (((St_registers (Al_strand v6)) a3.toNatClampNeg), v6)) else none) else (some ((0 : Int32), v6))) else (if a2 = (1 : Int32) then (if a3 ≤ (3 : Int32) then (if ix a3 4 then (some (((St_floats (Al_strand v6)) a3.toNatClampNeg), v6)) else none) else (some ((0 : Int32), v6))) else (if a2 = (2 : Int32) then (if a3 ≤ (31 : Int32) then (if ix a3 32 then (some (((Al_memory v6) a3.toNatClampNeg), v6)) else none) else (some ((0 : Int32), v6))) else (if a2 = (3 : Int32) then (if (Al_outputs v6) ≤ a3 then (some ((0 : Int32), v6)) else (if a3 < (1000 : Int32) then (if ix a3 1000 then (some (((Al_output v6) a3.toNatClampNeg), v6)) else none) else (some ((0 : Int32), v6)))) else (some ((0 : Int32), v6)))))))) else (some ((0 : Int32), al)))))
abbrev rm_TT_plainOf : Room := { frames := 7, cells := 0, slots := 0, locals := 177 }
set_option maxRecDepth 100000 in
set_option maxHeartbeats 4000000 in
theorem m_TT_plainOf (l : Launch) (D : va_G) (K : Nat → ClassId) (qo : Nat → Nat) (xtt_reader : Nat) (xtt_pair : Nat) (xtt_image : Nat) (xtt_trial : Nat) (xtt_draft : Nat) (tt : T_TT) (qa : Nat → Nat) (al : T_Al) (g : Nat → Nat) (pr : T_Pg) (a1 : Int32) (a2 : Int32) (a3 : Int32) {r_ : Int32} {o_al : T_Al} (hf : f_TT_plainOf tt al pr a1 a2 a3 = some (r_, o_al)) : MI l yX9_plainOf cX9_plainOf 4 (some .int) rm_TT_plainOf D K [.ref (qo 0), .int a1, .int a2, .int a3] (cl_TT K qo xtt_reader xtt_pair xtt_image xtt_trial (qa 0) (g 0) xtt_draft tt ++ (cl_Al K qa al ++ (cl_Pg K g pr))) r_ (cl_TT K qo xtt_reader xtt_pair xtt_image xtt_trial (qa 0) (g 0) xtt_draft tt ++ (cl_Al K qa o_al ++ (cl_Pg K g pr))) := by
  refine MI_of (loc0 := [(0, .ref (qo 0)), (1, .int a1), (2, .int a2), (3, .int a3)]) (by decide +kernel) rfl (Nat.le_of_ble_eq_true rfl) ?_
  intro p e s m args below meth c A cx
  unfold f_TT_plainOf at hf
  refine r_ws (ws' := [((qo 0), ob 8 [.ref xtt_reader, .ref xtt_pair, .ref xtt_image, .ref xtt_trial, .ref (qa 0), .ref (g 0), .ref xtt_draft, .int (TT_kept tt)]), ((qa 0), ob 0 [.ref (qa 1), .ref (qa 6), .ref (qa 7), .int (Al_outputs al)]), ((qa 1), ob 6 [.ref (qa 2), .ref (qa 3), .ref (qa 4), .ref (qa 5), .int (St_place (Al_strand al)), .int (St_steps (Al_strand al))]), ((qa 2), aI K 8 (St_registers (Al_strand al))), ((qa 3), aI K 4 (St_floats (Al_strand al))), ((qa 4), aI K 8 (St_stuckMask (Al_strand al))), ((qa 5), aI K 8 (St_stuckOnes (Al_strand al))), ((qa 6), aI K 32 (Al_memory al)), ((qa 7), aI K 1000 (Al_output al)), ((g 0), ob 3 [.ref (g 1), .ref (g 2), .ref (g 3), .ref (g 4), .ref (g 5), .ref (g 6), .ref (g 7), .ref (g 8), .int (Pg_nameCount pr), .int (Pg_size pr), .int (Pg_lines pr)]), ((g 1), aI K 64 (Pg_code pr)), ((g 2), aI K 64 (Pg_first pr)), ((g 3), aI K 64 (Pg_second pr)), ((g 4), aI K 64 (Pg_third pr)), ((g 5), aI K 8 (Pg_rules pr)), ((g 6), aI K 32 (Pg_data pr)), ((g 7), aI K 140 (Pg_names pr)), ((g 8), aI K 140 (Pg_namedPlaces pr))]) rfl ?_
  refine r_iload_n (pc := 0) cx dX9_plainOf_0 1 rfl ?_
  refine r_if_lt (pc := 1) (tgt := 15) cx dX9_plainOf_1 (by decide) (fun h1 => ?_) (fun h1 => ?_)
  · have hf := ifp h1 hf
    refine r_iconst (pc := 15) cx dX9_plainOf_15 ic_0 ?_
    cases hf
    exact r_iret (pc := 16) cx rfl rfl dX9_plainOf_16
  · have hf := ifn h1 hf
    refine r_iload_n (pc := 4) cx dX9_plainOf_4 1 rfl ?_
    refine r_sipush (pc := 5) cx dX9_plainOf_5 sp_999 ?_
    refine r_icmp_gt (pc := 8) (tgt := 15) cx dX9_plainOf_8 (by decide) (fun h2 => ?_) (fun h2 => ?_)
    · have hf := ifp h2 hf
      refine r_iconst (pc := 15) cx dX9_plainOf_15 ic_0 ?_
      cases hf
      exact r_iret (pc := 16) cx rfl rfl dX9_plainOf_16
    · have hf := ifn h2 hf
      refine r_iload_n (pc := 11) cx dX9_plainOf_11 3 rfl ?_
      refine r_if_ge (pc := 12) (tgt := 17) cx dX9_plainOf_12 (by decide) (fun h3 => ?_) (fun h3 => ?_)
      · have hf := ifp h3 hf
        refine r_aload_n (pc := 17) cx dX9_plainOf_17 0 rfl ?_
        refine r_get (pc := 18) cx cf_X9 0 4 rfl (by decide) rfl wd_579 dX9_plainOf_18 ?_
        refine r_aload_n (pc := 21) cx dX9_plainOf_21 0 rfl ?_
        refine r_get (pc := 22) cx cf_X9 0 5 rfl (by decide) rfl wd_580 dX9_plainOf_22 ?_
        obtain ⟨v4, hc5, hf⟩ := bd_of hf
        refine r_Vv (pc := 25) (ws' := [((qo 0), ob 8 [.ref xtt_reader, .ref xtt_pair, .ref xtt_image, .ref xtt_trial, .ref (qa 0), .ref (g 0), .ref xtt_draft, .int (TT_kept tt)]), ((qa 0), ob 0 [.ref (qa 1), .ref (qa 6), .ref (qa 7), .int (Al_outputs v4)]), ((qa 1), ob 6 [.ref (qa 2), .ref (qa 3), .ref (qa 4), .ref (qa 5), .int (St_place (Al_strand v4)), .int (St_steps (Al_strand v4))]), ((qa 2), aI K 8 (St_registers (Al_strand v4))), ((qa 3), aI K 4 (St_floats (Al_strand v4))), ((qa 4), aI K 8 (St_stuckMask (Al_strand v4))), ((qa 5), aI K 8 (St_stuckOnes (Al_strand v4))), ((qa 6), aI K 32 (Al_memory v4)), ((qa 7), aI K 1000 (Al_output v4)), ((g 0), ob 3 [.ref (g 1), .ref (g 2), .ref (g 3), .ref (g 4), .ref (g 5), .ref (g 6), .ref (g 7), .ref (g 8), .int (Pg_nameCount pr), .int (Pg_size pr), .int (Pg_lines pr)]), ((g 1), aI K 64 (Pg_code pr)), ((g 2), aI K 64 (Pg_first pr)), ((g 3), aI K 64 (Pg_second pr)), ((g 4), aI K 64 (Pg_third pr)), ((g 5), aI K 8 (Pg_rules pr)), ((g 6), aI K 32 (Pg_data pr)), ((g 7), aI K 140 (Pg_names pr)), ((g 8), aI K 140 (Pg_namedPlaces pr))]) (nn := 17) cx [.ref (g 0)] [] (m_Al_beginText l D K qa al g pr hc5) yv_X0_beginText wd_1002 ⟨rfl, rfl⟩ (by decide) (fr_k (fr_s (j := 0) rfl rfl rfl (fr_s (j := 1) rfl rfl rfl (fr_s (j := 2) rfl rfl rfl (fr_s (j := 3) rfl rfl rfl (fr_s (j := 4) rfl rfl rfl (fr_s (j := 5) rfl rfl rfl (fr_s (j := 6) rfl rfl rfl (fr_s (j := 7) rfl rfl rfl (fr_s (j := 8) rfl rfl rfl (fr_s (j := 9) rfl rfl rfl (fr_s (j := 10) rfl rfl rfl (fr_s (j := 11) rfl rfl rfl (fr_s (j := 12) rfl rfl rfl (fr_s (j := 13) rfl rfl rfl (fr_s (j := 14) rfl rfl rfl (fr_s (j := 15) rfl rfl rfl (fr_s (j := 16) rfl rfl rfl (fr_n))))))))))))))))))) rfl (by decide) 1 rfl rfl rfl (Nat.le_of_ble_eq_true rfl) dX9_plainOf_25 ?_
        refine r_aload_n (pc := 28) cx dX9_plainOf_28 0 rfl ?_
        refine r_get (pc := 29) cx cf_X9 0 4 rfl (by decide) rfl wd_579 dX9_plainOf_29 ?_
        refine r_aload_n (pc := 32) cx dX9_plainOf_32 0 rfl ?_
        refine r_get (pc := 33) cx cf_X9 0 5 rfl (by decide) rfl wd_580 dX9_plainOf_33 ?_
        refine r_iload_n (pc := 36) cx dX9_plainOf_36 1 rfl ?_
        obtain ⟨v6, hc7, hf⟩ := bd_of hf
        refine r_Vv (pc := 37) (ws' := [((qo 0), ob 8 [.ref xtt_reader, .ref xtt_pair, .ref xtt_image, .ref xtt_trial, .ref (qa 0), .ref (g 0), .ref xtt_draft, .int (TT_kept tt)]), ((qa 0), ob 0 [.ref (qa 1), .ref (qa 6), .ref (qa 7), .int (Al_outputs v6)]), ((qa 1), ob 6 [.ref (qa 2), .ref (qa 3), .ref (qa 4), .ref (qa 5), .int (St_place (Al_strand v6)), .int (St_steps (Al_strand v6))]), ((qa 2), aI K 8 (St_registers (Al_strand v6))), ((qa 3), aI K 4 (St_floats (Al_strand v6))), ((qa 4), aI K 8 (St_stuckMask (Al_strand v6))), ((qa 5), aI K 8 (St_stuckOnes (Al_strand v6))), ((qa 6), aI K 32 (Al_memory v6)), ((qa 7), aI K 1000 (Al_output v6)), ((g 0), ob 3 [.ref (g 1), .ref (g 2), .ref (g 3), .ref (g 4), .ref (g 5), .ref (g 6), .ref (g 7), .ref (g 8), .int (Pg_nameCount pr), .int (Pg_size pr), .int (Pg_lines pr)]), ((g 1), aI K 64 (Pg_code pr)), ((g 2), aI K 64 (Pg_first pr)), ((g 3), aI K 64 (Pg_second pr)), ((g 4), aI K 64 (Pg_third pr)), ((g 5), aI K 8 (Pg_rules pr)), ((g 6), aI K 32 (Pg_data pr)), ((g 7), aI K 140 (Pg_names pr)), ((g 8), aI K 140 (Pg_namedPlaces pr))]) (nn := 17) cx [.ref (g 0), .int a1] [] (m_Al_run l D K qa v4 g pr a1 hc7) yv_X0_run wd_1008 ⟨rfl, rfl⟩ (by decide) (fr_k (fr_s (j := 0) rfl rfl rfl (fr_s (j := 1) rfl rfl rfl (fr_s (j := 2) rfl rfl rfl (fr_s (j := 3) rfl rfl rfl (fr_s (j := 4) rfl rfl rfl (fr_s (j := 5) rfl rfl rfl (fr_s (j := 6) rfl rfl rfl (fr_s (j := 7) rfl rfl rfl (fr_s (j := 8) rfl rfl rfl (fr_s (j := 9) rfl rfl rfl (fr_s (j := 10) rfl rfl rfl (fr_s (j := 11) rfl rfl rfl (fr_s (j := 12) rfl rfl rfl (fr_s (j := 13) rfl rfl rfl (fr_s (j := 14) rfl rfl rfl (fr_s (j := 15) rfl rfl rfl (fr_s (j := 16) rfl rfl rfl (fr_n))))))))))))))))))) rfl (by decide) 1 rfl rfl rfl (Nat.le_of_ble_eq_true rfl) dX9_plainOf_37 ?_
        refine r_iload_n (pc := 40) cx dX9_plainOf_40 2 rfl ?_
        by_cases h8 : a2 = (0 : Int32)
        · have hf := ifp h8 hf
          refine r_tin (pc := 41) (tgt := 72) cx (0 : Int32) h8 dX9_plainOf_41 (by decide) (by decide) rfl (by decide) ?_
          refine r_iload_n (pc := 72) cx dX9_plainOf_72 3 rfl ?_
          refine r_bipush (pc := 73) cx dX9_plainOf_73 bp_7 ?_
          refine r_icmp_le (pc := 75) (tgt := 82) cx dX9_plainOf_75 (by decide) (fun h9 => ?_) (fun h9 => ?_)
          · have hf := ifp h9 hf
            refine r_aload_n (pc := 82) cx dX9_plainOf_82 0 rfl ?_
            refine r_get (pc := 83) cx cf_X9 0 4 rfl (by decide) rfl wd_579 dX9_plainOf_83 ?_
            refine r_get (pc := 86) cx cf_X0 1 0 rfl (by decide) rfl wd_559 dX9_plainOf_86 ?_
            refine r_get (pc := 89) cx cf_X7 2 0 rfl (by decide) rfl wd_312 dX9_plainOf_89 ?_
            refine r_iload_n (pc := 92) cx dX9_plainOf_92 3 rfl ?_
            obtain ⟨h10, hf⟩ := chk_of hf
            refine r_iald (pc := 93) cx 3 rfl h10 dX9_plainOf_93 ?_
            cases hf
            exact r_iret (pc := 94) cx rfl rfl dX9_plainOf_94
          · have hf := ifn h9 hf
            refine r_iconst (pc := 78) cx dX9_plainOf_78 ic_0 ?_
            refine r_goto (pc := 79) (tgt := 94) cx dX9_plainOf_79 (by decide) ?_
            cases hf
            exact r_iret (pc := 94) cx rfl rfl dX9_plainOf_94
        · have hf := ifn h8 hf
          by_cases h11 : a2 = (1 : Int32)
          · have hf := ifp h11 hf
            refine r_tin (pc := 41) (tgt := 95) cx (1 : Int32) h11 dX9_plainOf_41 (by decide) (by decide) rfl (by decide) ?_
            refine r_iload_n (pc := 95) cx dX9_plainOf_95 3 rfl ?_
            refine r_iconst (pc := 96) cx dX9_plainOf_96 ic_3 ?_
            refine r_icmp_le (pc := 97) (tgt := 104) cx dX9_plainOf_97 (by decide) (fun h12 => ?_) (fun h12 => ?_)
            · have hf := ifp h12 hf
              refine r_aload_n (pc := 104) cx dX9_plainOf_104 0 rfl ?_
              refine r_get (pc := 105) cx cf_X9 0 4 rfl (by decide) rfl wd_579 dX9_plainOf_105 ?_
              refine r_get (pc := 108) cx cf_X0 1 0 rfl (by decide) rfl wd_559 dX9_plainOf_108 ?_
              refine r_get (pc := 111) cx cf_X7 2 1 rfl (by decide) rfl wd_314 dX9_plainOf_111 ?_
              refine r_iload_n (pc := 114) cx dX9_plainOf_114 3 rfl ?_
              obtain ⟨h13, hf⟩ := chk_of hf
              refine r_iald (pc := 115) cx 4 rfl h13 dX9_plainOf_115 ?_
              cases hf
              exact r_iret (pc := 116) cx rfl rfl dX9_plainOf_116
            · have hf := ifn h12 hf
              refine r_iconst (pc := 100) cx dX9_plainOf_100 ic_0 ?_
              refine r_goto (pc := 101) (tgt := 116) cx dX9_plainOf_101 (by decide) ?_
              cases hf
              exact r_iret (pc := 116) cx rfl rfl dX9_plainOf_116
          · have hf := ifn h11 hf
            by_cases h14 : a2 = (2 : Int32)
            · have hf := ifp h14 hf
              refine r_tin (pc := 41) (tgt := 117) cx (2 : Int32) h14 dX9_plainOf_41 (by decide) (by decide) rfl (by decide) ?_
              refine r_iload_n (pc := 117) cx dX9_plainOf_117 3 rfl ?_
              refine r_bipush (pc := 118) cx dX9_plainOf_118 bp_31 ?_
              refine r_icmp_le (pc := 120) (tgt := 127) cx dX9_plainOf_120 (by decide) (fun h15 => ?_) (fun h15 => ?_)
              · have hf := ifp h15 hf
                refine r_aload_n (pc := 127) cx dX9_plainOf_127 0 rfl ?_
                refine r_get (pc := 128) cx cf_X9 0 4 rfl (by decide) rfl wd_579 dX9_plainOf_128 ?_
                refine r_get (pc := 131) cx cf_X0 1 1 rfl (by decide) rfl wd_561 dX9_plainOf_131 ?_
                refine r_iload_n (pc := 134) cx dX9_plainOf_134 3 rfl ?_
                obtain ⟨h16, hf⟩ := chk_of hf
                refine r_iald (pc := 135) cx 7 rfl h16 dX9_plainOf_135 ?_
                cases hf
                exact r_iret (pc := 136) cx rfl rfl dX9_plainOf_136
              · have hf := ifn h15 hf
                refine r_iconst (pc := 123) cx dX9_plainOf_123 ic_0 ?_
                refine r_goto (pc := 124) (tgt := 136) cx dX9_plainOf_124 (by decide) ?_
                cases hf
                exact r_iret (pc := 136) cx rfl rfl dX9_plainOf_136
            · have hf := ifn h14 hf
              by_cases h17 : a2 = (3 : Int32)
              · have hf := ifp h17 hf
                refine r_tin (pc := 41) (tgt := 137) cx (3 : Int32) h17 dX9_plainOf_41 (by decide) (by decide) rfl (by decide) ?_
                refine r_iload_n (pc := 137) cx dX9_plainOf_137 3 rfl ?_
                refine r_aload_n (pc := 138) cx dX9_plainOf_138 0 rfl ?_
                refine r_get (pc := 139) cx cf_X9 0 4 rfl (by decide) rfl wd_579 dX9_plainOf_139 ?_
                refine r_get (pc := 142) cx cf_X0 1 3 rfl (by decide) rfl wd_565 dX9_plainOf_142 ?_
                refine r_icmp_ge (pc := 145) (tgt := 155) cx dX9_plainOf_145 (by decide) (fun h18 => ?_) (fun h18 => ?_)
                · have hf := ifp h18 hf
                  refine r_iconst (pc := 155) cx dX9_plainOf_155 ic_0 ?_
                  refine r_goto (pc := 156) (tgt := 168) cx dX9_plainOf_156 (by decide) ?_
                  cases hf
                  exact r_iret (pc := 168) cx rfl rfl dX9_plainOf_168
                · have hf := ifn h18 hf
                  refine r_iload_n (pc := 148) cx dX9_plainOf_148 3 rfl ?_
                  refine r_sipush (pc := 149) cx dX9_plainOf_149 sp_1000 ?_
                  refine r_icmp_lt (pc := 152) (tgt := 159) cx dX9_plainOf_152 (by decide) (fun h19 => ?_) (fun h19 => ?_)
                  · have hf := ifp h19 hf
                    refine r_aload_n (pc := 159) cx dX9_plainOf_159 0 rfl ?_
                    refine r_get (pc := 160) cx cf_X9 0 4 rfl (by decide) rfl wd_579 dX9_plainOf_160 ?_
                    refine r_get (pc := 163) cx cf_X0 1 2 rfl (by decide) rfl wd_563 dX9_plainOf_163 ?_
                    refine r_iload_n (pc := 166) cx dX9_plainOf_166 3 rfl ?_
                    obtain ⟨h20, hf⟩ := chk_of hf
                    refine r_iald (pc := 167) cx 8 rfl h20 dX9_plainOf_167 ?_
                    cases hf
                    exact r_iret (pc := 168) cx rfl rfl dX9_plainOf_168
                  · have hf := ifn h19 hf
                    refine r_iconst (pc := 155) cx dX9_plainOf_155 ic_0 ?_
                    refine r_goto (pc := 156) (tgt := 168) cx dX9_plainOf_156 (by decide) ?_
                    cases hf
                    exact r_iret (pc := 168) cx rfl rfl dX9_plainOf_168
              · have hf := ifn h17 hf
                refine r_tout (pc := 41) (tgt := 169) cx dX9_plainOf_41 (by
                  have nh8 := toInt_ne h8
                  have mh8 : (0 : Int32).toInt = 0 := by decide
                  rw [mh8] at nh8
                  have nh11 := toInt_ne h11
                  have mh11 : (1 : Int32).toInt = 1 := by decide
                  rw [mh11] at nh11
                  have nh14 := toInt_ne h14
                  have mh14 : (2 : Int32).toInt = 2 := by decide
                  rw [mh14] at nh14
                  have nh17 := toInt_ne h17
                  have mh17 : (3 : Int32).toInt = 3 := by decide
                  rw [mh17] at nh17
                  omega) (by decide) ?_
                refine r_iconst (pc := 169) cx dX9_plainOf_169 ic_0 ?_
                cases hf
                exact r_iret (pc := 170) cx rfl rfl dX9_plainOf_170
      · have hf := ifn h3 hf
        refine r_iconst (pc := 15) cx dX9_plainOf_15 ic_0 ?_
        cases hf
        exact r_iret (pc := 16) cx rfl rfl dX9_plainOf_16
theorem yv_X9_plainOf : YV yX9_plainOf cX9_plainOf 4 (some .int) 3 := ⟨⟨by decide +kernel, by decide +kernel, by decide +kernel⟩, wd_1028, wd_88, wd_1026, wd_1027⟩
