def cl_Pg (K : Nat → ClassId) (q : Nat → Nat) (v : T_Pg) : va_W := (q 0, ob 3 [.ref (q 1), .ref (q 2), .ref (q 3), .ref (q 4), .ref (q 5), .ref (q 6), .ref (q 7), .ref (q 8), .int (Pg_nameCount v), .int (Pg_size v), .int (Pg_lines v)]) :: ([(q 1, aI K 64 (Pg_code v))] ++ ([(q 2, aI K 64 (Pg_first v))] ++ ([(q 3, aI K 64 (Pg_second v))] ++ ([(q 4, aI K 64 (Pg_third v))] ++ ([(q 5, aI K 8 (Pg_rules v))] ++ ([(q 6, aI K 32 (Pg_data v))] ++ ([(q 7, aI K 140 (Pg_names v))] ++ ([(q 8, aI K 140 (Pg_namedPlaces v))]))))))))
def cl_Qu (K : Nat → ClassId) (q : Nat → Nat) (v : T_Qu) : va_W := (q 0, ob 4 [.ref (q 1), .ref (q 2), .ref (q 3), .ref (q 4), .ref (q 5), .ref (q 6), .ref (q 7), .int (Qu_firstLoad v), .int (Qu_loads v), .int (Qu_firstBranch v), .int (Qu_branches v), .int (Qu_held v), .int (Qu_comparedHeld v)]) :: ([(q 1, aI K 8 (Qu_loadAddress v))] ++ ([(q 2, aI K 8 (Qu_loadWord v))] ++ ([(q 3, aI K 8 (Qu_branch v))] ++ ([(q 4, aI K 8 (Qu_heldAddress v))] ++ ([(q 5, aI K 8 (Qu_heldWord v))] ++ ([(q 6, aI K 8 (Qu_besideAddress v))] ++ ([(q 7, aI K 8 (Qu_besideWord v))])))))))
def cl_Rd (K : Nat → ClassId) (q : Nat → Nat) (v : T_Rd) : va_W := (q 0, ob 5 [.ref (q 1), .int (Rd_filled v), .int (Rd_fault v), .int (Rd_faultPlace v), .ref (q 2), .ref (q 3), .ref (q 4), .ref (q 5), .int (Rd_limit v), .int (Rd_position v), .int (Rd_token v), .int (Rd_value v), .int (Rd_place v), .int (Rd_toldRules v), .int (Rd_toldData v)]) :: ([(q 1, aB K 700 (Rd_tape v))] ++ ([(q 2, aI K 25 (Rd_words v))] ++ ([(q 3, aI K 75 (Rd_sorts v))] ++ ([(q 4, aI K 3 (Rd_parts v))] ++ ([(q 5, aI K 64 (Rd_wantedPlaces v))])))))
def cl_St (K : Nat → ClassId) (q : Nat → Nat) (v : T_St) : va_W := (q 0, ob 6 [.ref (q 1), .ref (q 2), .ref (q 3), .ref (q 4), .int (St_place v), .int (St_steps v)]) :: ([(q 1, aI K 8 (St_registers v))] ++ ([(q 2, aI K 4 (St_floats v))] ++ ([(q 3, aI K 8 (St_stuckMask v))] ++ ([(q 4, aI K 8 (St_stuckOnes v))]))))
def cl_Ta (K : Nat → ClassId) (q : Nat → Nat) (v : T_Ta) : va_W := (q 0, ob 7 [.ref (q 1), .ref (q 2), .ref (q 3), .ref (q 4), .int (Ta_turns v), .int (Ta_points v), .int (Ta_alarms v), .int (Ta_alarmsSincePoint v), .int (Ta_greatestAhead v), .int (Ta_aheadSum v), .int (Ta_leaderTurns v), .int (Ta_trailerTurns v), .int (Ta_comparedSteps v)]) :: ([(q 1, aI K 8 (Ta_alarmSort v))] ++ ([(q 2, aI K 8 (Ta_alarmTurn v))] ++ ([(q 3, aI K 8 (Ta_alarmLeaderSteps v))] ++ ([(q 4, aI K 8 (Ta_alarmTrailerSteps v))]))))
def cl_Ou (K : Nat → ClassId) (q : Nat → Nat) (v : T_Ou) : va_W := (q 0, ob 1 [.ref (q 1), .ref (q 2), .ref (q 3), .ref (q 4), .ref (q 5), .int (Ou_stores v), .int (Ou_outputs v)]) :: ([(q 1, aI K 32 (Ou_memory v))] ++ ([(q 2, aI K 40 (Ou_output v))] ++ ([(q 3, aI K 16 (Ou_leftAddress v))] ++ ([(q 4, aI K 16 (Ou_leftWord v))] ++ ([(q 5, aI K 16 (Ou_leftPoint v))])))))
def cl_Al (K : Nat → ClassId) (q : Nat → Nat) (v : T_Al) : va_W := (q 0, ob 0 [.ref (q 1), .ref (q 6), .ref (q 7), .int (Al_outputs v)]) :: (cl_St K (fun i => q (i + 1)) (Al_strand v) ++ ([(q 6, aI K 32 (Al_memory v))] ++ ([(q 7, aI K 1000 (Al_output v))])))
def cl_Pa (K : Nat → ClassId) (q : Nat → Nat) (xprogram : Nat) (v : T_Pa) : va_W := (q 0, ob 2 [.ref (q 1), .ref (q 2), .ref (q 7), .ref (q 12), .ref (q 17), .ref (q 25), .ref (q 31), .ref xprogram, .int (Pa_done v), .int (Pa_down v)]) :: ([(q 1, aI K 8 (Pa_rules v))] ++ (cl_St K (fun i => q (i + 2)) (Pa_leader v) ++ (cl_St K (fun i => q (i + 7)) (Pa_trailer v) ++ (cl_St K (fun i => q (i + 12)) (Pa_point v) ++ (cl_Qu K (fun i => q (i + 17)) (Pa_queues v) ++ (cl_Ou K (fun i => q (i + 25)) (Pa_outside v) ++ (cl_Ta K (fun i => q (i + 31)) (Pa_tally v))))))))
def cl_TT (K : Nat → ClassId) (q : Nat → Nat) (xreader : Nat) (xpair : Nat) (ximage : Nat) (xtrial : Nat) (xalone : Nat) (xprogram : Nat) (xdraft : Nat) (v : T_TT) : va_W := (q 0, ob 8 [.ref xreader, .ref xpair, .ref ximage, .ref xtrial, .ref xalone, .ref xprogram, .ref xdraft, .int (TT_kept v)]) :: ([])
def cl_M (K : Nat → ClassId) (q : Nat → Nat) (v : T_M) : va_W := (q 0, ob 9 [.int (M_thrown v), .ref (q 1), .int (M_taped (M_tp v)), .ref (q 2), .ref (q 3), .ref (q 4), .ref (q 5), .ref (q 6), .ref (q 7), .ref (q 8), .ref (q 9), .ref (q 10), .ref (q 11), .ref (q 12), .ref (q 13), .ref (q 14), .int (M_lines (M_rd v)), .int (M_size (M_rd v)), .int (M_at (M_rd v)), .int (M_place (M_rd v)), .int (M_sort (M_rd v)), .int (M_value (M_rd v)), .int (M_fault (M_rd v)), .int (M_faultPlace (M_rd v)), .int (M_lastFault (M_lf v)), .int (M_lastPlace (M_lf v)), .ref (q 15), .ref (q 16), .ref (q 17), .ref (q 18), .int (M_hasImage (M_im v)), .int (M_spanNow (M_rn v)), .ref (q 19), .int (M_placeThen (M_rn v)), .int (M_alonePlace (M_al v)), .int (M_aloneSteps (M_al v)), .int (M_aloneOut (M_al v)), .ref (q 20), .ref (q 21), .ref (q 22), .ref (q 23), .int (M_shotAlarm (M_ex v)), .int (M_drawn (M_ex v))]) :: ([(q 1, aI K 700 (M_tape (M_tp v)))] ++ ([(q 2, aI K 20 (M_number (M_cd v)))] ++ ([(q 3, aZ K 5 (M_isTold (M_rd v)))] ++ ([(q 4, aI K 80 (M_codeSort (M_cd v)))] ++ ([(q 5, aI K 80 (M_codeA (M_cd v)))] ++ ([(q 6, aI K 80 (M_codeB (M_cd v)))] ++ ([(q 7, aI K 80 (M_codeC (M_cd v)))] ++ ([(q 8, aI K 80 (M_codeName (M_cd v)))] ++ ([(q 9, aI K 80 (M_codePlace (M_cd v)))] ++ ([(q 10, aI K 80 (M_codeTo (M_cd v)))] ++ ([(q 11, aI K 280 (M_labelName (M_cd v)))] ++ ([(q 12, aI K 280 (M_labelAt (M_cd v)))] ++ ([(q 13, aI K 64 (M_data (M_cd v)))] ++ ([(q 14, aZ K 32 (M_hasData (M_rd v)))] ++ ([(q 15, aI K 314 (M_s (M_rn v)))] ++ ([(q 16, aI K 314 (M_aside (M_ex v)))] ++ ([(q 17, aI K 314 (M_further (M_ex v)))] ++ ([(q 18, aI K 314 (M_image (M_im v)))] ++ ([(q 19, aI K 3 (M_sizeNow (M_rn v)))] ++ ([(q 20, aI K 8 (M_aloneRegister (M_al v)))] ++ ([(q 21, aI K 4 (M_aloneReal (M_al v)))] ++ ([(q 22, aI K 32 (M_aloneMemory (M_al v)))] ++ ([(q 23, aI K 999 (M_aloneOutput (M_al v)))])))))))))))))))))))))))
def cl_R (K : Nat → ClassId) (n : Nat) (q : Nat → Nat) (v : Nat → Int32) : va_W := [(q 0, aI K n v)]
theorem cf_X4 : CF 3 RX4 TX4 11 tyX4 := ⟨rfl, (show ∀ w ∈ [u_lay RX4 TX4 0, u_lay RX4 TX4 1, u_lay RX4 TX4 2, u_lay RX4 TX4 3, u_lay RX4 TX4 4, u_lay RX4 TX4 5, u_lay RX4 TX4 6, u_lay RX4 TX4 7, u_lay RX4 TX4 8, u_lay RX4 TX4 9, u_lay RX4 TX4 10], w ∈ WALL from List.forall_mem_cons.mpr ⟨wd_161, List.forall_mem_cons.mpr ⟨wd_163, List.forall_mem_cons.mpr ⟨wd_165, List.forall_mem_cons.mpr ⟨wd_167, List.forall_mem_cons.mpr ⟨wd_169, List.forall_mem_cons.mpr ⟨wd_171, List.forall_mem_cons.mpr ⟨wd_173, List.forall_mem_cons.mpr ⟨wd_175, List.forall_mem_cons.mpr ⟨wd_177, List.forall_mem_cons.mpr ⟨wd_179, List.forall_mem_cons.mpr ⟨wd_181, fun _ h => absurd h List.not_mem_nil⟩⟩⟩⟩⟩⟩⟩⟩⟩⟩⟩), tyX4_ok, nmX4⟩
theorem cf_X5 : CF 4 RX5 TX5 13 tyX5 := ⟨rfl, (show ∀ w ∈ [u_lay RX5 TX5 0, u_lay RX5 TX5 1, u_lay RX5 TX5 2, u_lay RX5 TX5 3, u_lay RX5 TX5 4, u_lay RX5 TX5 5, u_lay RX5 TX5 6, u_lay RX5 TX5 7, u_lay RX5 TX5 8, u_lay RX5 TX5 9, u_lay RX5 TX5 10, u_lay RX5 TX5 11, u_lay RX5 TX5 12], w ∈ WALL from List.forall_mem_cons.mpr ⟨wd_365, List.forall_mem_cons.mpr ⟨wd_367, List.forall_mem_cons.mpr ⟨wd_369, List.forall_mem_cons.mpr ⟨wd_371, List.forall_mem_cons.mpr ⟨wd_373, List.forall_mem_cons.mpr ⟨wd_375, List.forall_mem_cons.mpr ⟨wd_377, List.forall_mem_cons.mpr ⟨wd_379, List.forall_mem_cons.mpr ⟨wd_381, List.forall_mem_cons.mpr ⟨wd_383, List.forall_mem_cons.mpr ⟨wd_385, List.forall_mem_cons.mpr ⟨wd_387, List.forall_mem_cons.mpr ⟨wd_389, fun _ h => absurd h List.not_mem_nil⟩⟩⟩⟩⟩⟩⟩⟩⟩⟩⟩⟩⟩), tyX5_ok, nmX5⟩
theorem cf_X6 : CF 5 RX6 TX6 15 tyX6 := ⟨rfl, (show ∀ w ∈ [u_lay RX6 TX6 0, u_lay RX6 TX6 1, u_lay RX6 TX6 2, u_lay RX6 TX6 3, u_lay RX6 TX6 4, u_lay RX6 TX6 5, u_lay RX6 TX6 6, u_lay RX6 TX6 7, u_lay RX6 TX6 8, u_lay RX6 TX6 9, u_lay RX6 TX6 10, u_lay RX6 TX6 11, u_lay RX6 TX6 12, u_lay RX6 TX6 13, u_lay RX6 TX6 14], w ∈ WALL from List.forall_mem_cons.mpr ⟨wd_267, List.forall_mem_cons.mpr ⟨wd_269, List.forall_mem_cons.mpr ⟨wd_271, List.forall_mem_cons.mpr ⟨wd_273, List.forall_mem_cons.mpr ⟨wd_275, List.forall_mem_cons.mpr ⟨wd_277, List.forall_mem_cons.mpr ⟨wd_279, List.forall_mem_cons.mpr ⟨wd_281, List.forall_mem_cons.mpr ⟨wd_283, List.forall_mem_cons.mpr ⟨wd_285, List.forall_mem_cons.mpr ⟨wd_287, List.forall_mem_cons.mpr ⟨wd_289, List.forall_mem_cons.mpr ⟨wd_291, List.forall_mem_cons.mpr ⟨wd_293, List.forall_mem_cons.mpr ⟨wd_295, fun _ h => absurd h List.not_mem_nil⟩⟩⟩⟩⟩⟩⟩⟩⟩⟩⟩⟩⟩⟩⟩), tyX6_ok, nmX6⟩
theorem cf_X7 : CF 6 RX7 TX7 6 tyX7 := ⟨rfl, (show ∀ w ∈ [u_lay RX7 TX7 0, u_lay RX7 TX7 1, u_lay RX7 TX7 2, u_lay RX7 TX7 3, u_lay RX7 TX7 4, u_lay RX7 TX7 5], w ∈ WALL from List.forall_mem_cons.mpr ⟨wd_324, List.forall_mem_cons.mpr ⟨wd_326, List.forall_mem_cons.mpr ⟨wd_328, List.forall_mem_cons.mpr ⟨wd_330, List.forall_mem_cons.mpr ⟨wd_332, List.forall_mem_cons.mpr ⟨wd_334, fun _ h => absurd h List.not_mem_nil⟩⟩⟩⟩⟩⟩), tyX7_ok, nmX7⟩
theorem cf_X8 : CF 7 RX8 TX8 13 tyX8 := ⟨rfl, (show ∀ w ∈ [u_lay RX8 TX8 0, u_lay RX8 TX8 1, u_lay RX8 TX8 2, u_lay RX8 TX8 3, u_lay RX8 TX8 4, u_lay RX8 TX8 5, u_lay RX8 TX8 6, u_lay RX8 TX8 7, u_lay RX8 TX8 8, u_lay RX8 TX8 9, u_lay RX8 TX8 10, u_lay RX8 TX8 11, u_lay RX8 TX8 12], w ∈ WALL from List.forall_mem_cons.mpr ⟨wd_455, List.forall_mem_cons.mpr ⟨wd_457, List.forall_mem_cons.mpr ⟨wd_459, List.forall_mem_cons.mpr ⟨wd_461, List.forall_mem_cons.mpr ⟨wd_463, List.forall_mem_cons.mpr ⟨wd_465, List.forall_mem_cons.mpr ⟨wd_467, List.forall_mem_cons.mpr ⟨wd_469, List.forall_mem_cons.mpr ⟨wd_471, List.forall_mem_cons.mpr ⟨wd_473, List.forall_mem_cons.mpr ⟨wd_475, List.forall_mem_cons.mpr ⟨wd_477, List.forall_mem_cons.mpr ⟨wd_479, fun _ h => absurd h List.not_mem_nil⟩⟩⟩⟩⟩⟩⟩⟩⟩⟩⟩⟩⟩), tyX8_ok, nmX8⟩
theorem cf_X2 : CF 1 RX2 TX2 7 tyX2 := ⟨rfl, (show ∀ w ∈ [u_lay RX2 TX2 0, u_lay RX2 TX2 1, u_lay RX2 TX2 2, u_lay RX2 TX2 3, u_lay RX2 TX2 4, u_lay RX2 TX2 5, u_lay RX2 TX2 6], w ∈ WALL from List.forall_mem_cons.mpr ⟨wd_409, List.forall_mem_cons.mpr ⟨wd_411, List.forall_mem_cons.mpr ⟨wd_413, List.forall_mem_cons.mpr ⟨wd_415, List.forall_mem_cons.mpr ⟨wd_417, List.forall_mem_cons.mpr ⟨wd_419, List.forall_mem_cons.mpr ⟨wd_421, fun _ h => absurd h List.not_mem_nil⟩⟩⟩⟩⟩⟩⟩), tyX2_ok, nmX2⟩
theorem cf_X0 : CF 0 RX0 TX0 4 tyX0 := ⟨rfl, (show ∀ w ∈ [u_lay RX0 TX0 0, u_lay RX0 TX0 1, u_lay RX0 TX0 2, u_lay RX0 TX0 3], w ∈ WALL from List.forall_mem_cons.mpr ⟨wd_566, List.forall_mem_cons.mpr ⟨wd_568, List.forall_mem_cons.mpr ⟨wd_570, List.forall_mem_cons.mpr ⟨wd_572, fun _ h => absurd h List.not_mem_nil⟩⟩⟩⟩), tyX0_ok, nmX0⟩
theorem cf_X3 : CF 2 RX3 TX3 10 tyX3 := ⟨rfl, (show ∀ w ∈ [u_lay RX3 TX3 0, u_lay RX3 TX3 1, u_lay RX3 TX3 2, u_lay RX3 TX3 3, u_lay RX3 TX3 4, u_lay RX3 TX3 5, u_lay RX3 TX3 6, u_lay RX3 TX3 7, u_lay RX3 TX3 8, u_lay RX3 TX3 9], w ∈ WALL from List.forall_mem_cons.mpr ⟨wd_529, List.forall_mem_cons.mpr ⟨wd_531, List.forall_mem_cons.mpr ⟨wd_533, List.forall_mem_cons.mpr ⟨wd_535, List.forall_mem_cons.mpr ⟨wd_537, List.forall_mem_cons.mpr ⟨wd_539, List.forall_mem_cons.mpr ⟨wd_541, List.forall_mem_cons.mpr ⟨wd_543, List.forall_mem_cons.mpr ⟨wd_545, List.forall_mem_cons.mpr ⟨wd_547, fun _ h => absurd h List.not_mem_nil⟩⟩⟩⟩⟩⟩⟩⟩⟩⟩), tyX3_ok, nmX3⟩
theorem cf_X9 : CF 8 RX9 TX9 8 tyX9 := ⟨rfl, (show ∀ w ∈ [u_lay RX9 TX9 0, u_lay RX9 TX9 1, u_lay RX9 TX9 2, u_lay RX9 TX9 3, u_lay RX9 TX9 4, u_lay RX9 TX9 5, u_lay RX9 TX9 6, u_lay RX9 TX9 7], w ∈ WALL from List.forall_mem_cons.mpr ⟨wd_583, List.forall_mem_cons.mpr ⟨wd_585, List.forall_mem_cons.mpr ⟨wd_587, List.forall_mem_cons.mpr ⟨wd_589, List.forall_mem_cons.mpr ⟨wd_591, List.forall_mem_cons.mpr ⟨wd_593, List.forall_mem_cons.mpr ⟨wd_595, List.forall_mem_cons.mpr ⟨wd_597, fun _ h => absurd h List.not_mem_nil⟩⟩⟩⟩⟩⟩⟩⟩), tyX9_ok, nmX9⟩
theorem cf_X10 : CF 9 RX10 TX10 43 tyX10 := ⟨rfl, (show ∀ w ∈ [u_lay RX10 TX10 0, u_lay RX10 TX10 1, u_lay RX10 TX10 2, u_lay RX10 TX10 3, u_lay RX10 TX10 4, u_lay RX10 TX10 5, u_lay RX10 TX10 6, u_lay RX10 TX10 7, u_lay RX10 TX10 8, u_lay RX10 TX10 9, u_lay RX10 TX10 10, u_lay RX10 TX10 11, u_lay RX10 TX10 12, u_lay RX10 TX10 13, u_lay RX10 TX10 14, u_lay RX10 TX10 15, u_lay RX10 TX10 16, u_lay RX10 TX10 17, u_lay RX10 TX10 18, u_lay RX10 TX10 19, u_lay RX10 TX10 20, u_lay RX10 TX10 21, u_lay RX10 TX10 22, u_lay RX10 TX10 23, u_lay RX10 TX10 24, u_lay RX10 TX10 25, u_lay RX10 TX10 26, u_lay RX10 TX10 27, u_lay RX10 TX10 28, u_lay RX10 TX10 29, u_lay RX10 TX10 30, u_lay RX10 TX10 31, u_lay RX10 TX10 32, u_lay RX10 TX10 33, u_lay RX10 TX10 34, u_lay RX10 TX10 35, u_lay RX10 TX10 36, u_lay RX10 TX10 37, u_lay RX10 TX10 38, u_lay RX10 TX10 39, u_lay RX10 TX10 40, u_lay RX10 TX10 41, u_lay RX10 TX10 42], w ∈ WALL from List.forall_mem_cons.mpr ⟨wd_1359, List.forall_mem_cons.mpr ⟨wd_1361, List.forall_mem_cons.mpr ⟨wd_1363, List.forall_mem_cons.mpr ⟨wd_1365, List.forall_mem_cons.mpr ⟨wd_1367, List.forall_mem_cons.mpr ⟨wd_1369, List.forall_mem_cons.mpr ⟨wd_1371, List.forall_mem_cons.mpr ⟨wd_1373, List.forall_mem_cons.mpr ⟨wd_1375, List.forall_mem_cons.mpr ⟨wd_1377, List.forall_mem_cons.mpr ⟨wd_1379, List.forall_mem_cons.mpr ⟨wd_1381, List.forall_mem_cons.mpr ⟨wd_1383, List.forall_mem_cons.mpr ⟨wd_1385, List.forall_mem_cons.mpr ⟨wd_1387, List.forall_mem_cons.mpr ⟨wd_1389, List.forall_mem_cons.mpr ⟨wd_1391, List.forall_mem_cons.mpr ⟨wd_1393, List.forall_mem_cons.mpr ⟨wd_1395, List.forall_mem_cons.mpr ⟨wd_1397, List.forall_mem_cons.mpr ⟨wd_1399, List.forall_mem_cons.mpr ⟨wd_1401, List.forall_mem_cons.mpr ⟨wd_1403, List.forall_mem_cons.mpr ⟨wd_1405, List.forall_mem_cons.mpr ⟨wd_1407, List.forall_mem_cons.mpr ⟨wd_1409, List.forall_mem_cons.mpr ⟨wd_1411, List.forall_mem_cons.mpr ⟨wd_1413, List.forall_mem_cons.mpr ⟨wd_1415, List.forall_mem_cons.mpr ⟨wd_1417, List.forall_mem_cons.mpr ⟨wd_1419, List.forall_mem_cons.mpr ⟨wd_1421, List.forall_mem_cons.mpr ⟨wd_1423, List.forall_mem_cons.mpr ⟨wd_1425, List.forall_mem_cons.mpr ⟨wd_1427, List.forall_mem_cons.mpr ⟨wd_1429, List.forall_mem_cons.mpr ⟨wd_1431, List.forall_mem_cons.mpr ⟨wd_1433, List.forall_mem_cons.mpr ⟨wd_1435, List.forall_mem_cons.mpr ⟨wd_1437, List.forall_mem_cons.mpr ⟨wd_1439, List.forall_mem_cons.mpr ⟨wd_1441, List.forall_mem_cons.mpr ⟨wd_1443, fun _ h => absurd h List.not_mem_nil⟩⟩⟩⟩⟩⟩⟩⟩⟩⟩⟩⟩⟩⟩⟩⟩⟩⟩⟩⟩⟩⟩⟩⟩⟩⟩⟩⟩⟩⟩⟩⟩⟩⟩⟩⟩⟩⟩⟩⟩⟩⟩⟩), tyX10_ok, nmX10⟩
theorem ic_m16 : Int32.ofInt (-16) = (-16 : Int32) := by decide
theorem ic_m8 : Int32.ofInt (-8) = (-8 : Int32) := by decide
theorem ic_m4 : Int32.ofInt (-4) = (-4 : Int32) := by decide
theorem ic_m2 : Int32.ofInt (-2) = (-2 : Int32) := by decide
theorem ic_m1 : Int32.ofInt (-1) = (-1 : Int32) := by decide
theorem ic_0 : Int32.ofInt (0) = (0 : Int32) := by decide
theorem ic_1 : Int32.ofInt (1) = (1 : Int32) := by decide
theorem ic_2 : Int32.ofInt (2) = (2 : Int32) := by decide
theorem ic_3 : Int32.ofInt (3) = (3 : Int32) := by decide
theorem ic_4 : Int32.ofInt (4) = (4 : Int32) := by decide
theorem ic_5 : Int32.ofInt (5) = (5 : Int32) := by decide
theorem bp_m24 : (Int8.ofInt (-24)).toInt32 = (-24 : Int32) := by decide
theorem bp_m2 : (Int8.ofInt (-2)).toInt32 = (-2 : Int32) := by decide
theorem bp_6 : (Int8.ofInt (6)).toInt32 = (6 : Int32) := by decide
theorem bp_7 : (Int8.ofInt (7)).toInt32 = (7 : Int32) := by decide
theorem bp_8 : (Int8.ofInt (8)).toInt32 = (8 : Int32) := by decide
theorem bp_9 : (Int8.ofInt (9)).toInt32 = (9 : Int32) := by decide
theorem bp_10 : (Int8.ofInt (10)).toInt32 = (10 : Int32) := by decide
theorem bp_11 : (Int8.ofInt (11)).toInt32 = (11 : Int32) := by decide
theorem bp_12 : (Int8.ofInt (12)).toInt32 = (12 : Int32) := by decide
theorem bp_13 : (Int8.ofInt (13)).toInt32 = (13 : Int32) := by decide
theorem bp_14 : (Int8.ofInt (14)).toInt32 = (14 : Int32) := by decide
theorem bp_15 : (Int8.ofInt (15)).toInt32 = (15 : Int32) := by decide
theorem bp_16 : (Int8.ofInt (16)).toInt32 = (16 : Int32) := by decide
theorem bp_17 : (Int8.ofInt (17)).toInt32 = (17 : Int32) := by decide
theorem bp_18 : (Int8.ofInt (18)).toInt32 = (18 : Int32) := by decide
theorem bp_19 : (Int8.ofInt (19)).toInt32 = (19 : Int32) := by decide
theorem bp_20 : (Int8.ofInt (20)).toInt32 = (20 : Int32) := by decide
theorem bp_21 : (Int8.ofInt (21)).toInt32 = (21 : Int32) := by decide
theorem bp_22 : (Int8.ofInt (22)).toInt32 = (22 : Int32) := by decide
theorem bp_23 : (Int8.ofInt (23)).toInt32 = (23 : Int32) := by decide
theorem bp_24 : (Int8.ofInt (24)).toInt32 = (24 : Int32) := by decide
theorem bp_25 : (Int8.ofInt (25)).toInt32 = (25 : Int32) := by decide
theorem bp_28 : (Int8.ofInt (28)).toInt32 = (28 : Int32) := by decide
theorem bp_30 : (Int8.ofInt (30)).toInt32 = (30 : Int32) := by decide
theorem bp_31 : (Int8.ofInt (31)).toInt32 = (31 : Int32) := by decide
theorem bp_32 : (Int8.ofInt (32)).toInt32 = (32 : Int32) := by decide
theorem bp_40 : (Int8.ofInt (40)).toInt32 = (40 : Int32) := by decide
theorem bp_45 : (Int8.ofInt (45)).toInt32 = (45 : Int32) := by decide
theorem bp_46 : (Int8.ofInt (46)).toInt32 = (46 : Int32) := by decide
theorem bp_48 : (Int8.ofInt (48)).toInt32 = (48 : Int32) := by decide
theorem bp_50 : (Int8.ofInt (50)).toInt32 = (50 : Int32) := by decide
theorem bp_54 : (Int8.ofInt (54)).toInt32 = (54 : Int32) := by decide
theorem bp_57 : (Int8.ofInt (57)).toInt32 = (57 : Int32) := by decide
theorem bp_59 : (Int8.ofInt (59)).toInt32 = (59 : Int32) := by decide
theorem bp_62 : (Int8.ofInt (62)).toInt32 = (62 : Int32) := by decide
theorem bp_63 : (Int8.ofInt (63)).toInt32 = (63 : Int32) := by decide
theorem bp_64 : (Int8.ofInt (64)).toInt32 = (64 : Int32) := by decide
theorem bp_70 : (Int8.ofInt (70)).toInt32 = (70 : Int32) := by decide
theorem bp_86 : (Int8.ofInt (86)).toInt32 = (86 : Int32) := by decide
theorem bp_87 : (Int8.ofInt (87)).toInt32 = (87 : Int32) := by decide
theorem bp_95 : (Int8.ofInt (95)).toInt32 = (95 : Int32) := by decide
theorem bp_97 : (Int8.ofInt (97)).toInt32 = (97 : Int32) := by decide
theorem bp_100 : (Int8.ofInt (100)).toInt32 = (100 : Int32) := by decide
theorem bp_103 : (Int8.ofInt (103)).toInt32 = (103 : Int32) := by decide
theorem bp_104 : (Int8.ofInt (104)).toInt32 = (104 : Int32) := by decide
theorem bp_110 : (Int8.ofInt (110)).toInt32 = (110 : Int32) := by decide
theorem bp_112 : (Int8.ofInt (112)).toInt32 = (112 : Int32) := by decide
theorem bp_113 : (Int8.ofInt (113)).toInt32 = (113 : Int32) := by decide
theorem bp_114 : (Int8.ofInt (114)).toInt32 = (114 : Int32) := by decide
theorem bp_115 : (Int8.ofInt (115)).toInt32 = (115 : Int32) := by decide
theorem bp_116 : (Int8.ofInt (116)).toInt32 = (116 : Int32) := by decide
theorem bp_119 : (Int8.ofInt (119)).toInt32 = (119 : Int32) := by decide
theorem bp_122 : (Int8.ofInt (122)).toInt32 = (122 : Int32) := by decide
theorem sp_m149 : (Int16.ofInt (-149)).toInt32 = (-149 : Int32) := by decide
theorem sp_130 : (Int16.ofInt (130)).toInt32 = (130 : Int32) := by decide
theorem sp_138 : (Int16.ofInt (138)).toInt32 = (138 : Int32) := by decide
theorem sp_140 : (Int16.ofInt (140)).toInt32 = (140 : Int32) := by decide
theorem sp_146 : (Int16.ofInt (146)).toInt32 = (146 : Int32) := by decide
theorem sp_149 : (Int16.ofInt (149)).toInt32 = (149 : Int32) := by decide
theorem sp_150 : (Int16.ofInt (150)).toInt32 = (150 : Int32) := by decide
theorem sp_178 : (Int16.ofInt (178)).toInt32 = (178 : Int32) := by decide
theorem sp_179 : (Int16.ofInt (179)).toInt32 = (179 : Int32) := by decide
theorem sp_200 : (Int16.ofInt (200)).toInt32 = (200 : Int32) := by decide
theorem sp_219 : (Int16.ofInt (219)).toInt32 = (219 : Int32) := by decide
theorem sp_220 : (Int16.ofInt (220)).toInt32 = (220 : Int32) := by decide
theorem sp_221 : (Int16.ofInt (221)).toInt32 = (221 : Int32) := by decide
theorem sp_222 : (Int16.ofInt (222)).toInt32 = (222 : Int32) := by decide
theorem sp_223 : (Int16.ofInt (223)).toInt32 = (223 : Int32) := by decide
theorem sp_224 : (Int16.ofInt (224)).toInt32 = (224 : Int32) := by decide
theorem sp_225 : (Int16.ofInt (225)).toInt32 = (225 : Int32) := by decide
theorem sp_226 : (Int16.ofInt (226)).toInt32 = (226 : Int32) := by decide
theorem sp_227 : (Int16.ofInt (227)).toInt32 = (227 : Int32) := by decide
theorem sp_228 : (Int16.ofInt (228)).toInt32 = (228 : Int32) := by decide
theorem sp_229 : (Int16.ofInt (229)).toInt32 = (229 : Int32) := by decide
theorem sp_230 : (Int16.ofInt (230)).toInt32 = (230 : Int32) := by decide
theorem sp_231 : (Int16.ofInt (231)).toInt32 = (231 : Int32) := by decide
theorem sp_232 : (Int16.ofInt (232)).toInt32 = (232 : Int32) := by decide
theorem sp_233 : (Int16.ofInt (233)).toInt32 = (233 : Int32) := by decide
theorem sp_234 : (Int16.ofInt (234)).toInt32 = (234 : Int32) := by decide
theorem sp_235 : (Int16.ofInt (235)).toInt32 = (235 : Int32) := by decide
theorem sp_236 : (Int16.ofInt (236)).toInt32 = (236 : Int32) := by decide
theorem sp_255 : (Int16.ofInt (255)).toInt32 = (255 : Int32) := by decide
theorem sp_256 : (Int16.ofInt (256)).toInt32 = (256 : Int32) := by decide
theorem sp_265 : (Int16.ofInt (265)).toInt32 = (265 : Int32) := by decide
theorem sp_266 : (Int16.ofInt (266)).toInt32 = (266 : Int32) := by decide
theorem sp_300 : (Int16.ofInt (300)).toInt32 = (300 : Int32) := by decide
theorem sp_314 : (Int16.ofInt (314)).toInt32 = (314 : Int32) := by decide
theorem sp_680 : (Int16.ofInt (680)).toInt32 = (680 : Int32) := by decide
theorem sp_700 : (Int16.ofInt (700)).toInt32 = (700 : Int32) := by decide
theorem sp_999 : (Int16.ofInt (999)).toInt32 = (999 : Int32) := by decide
theorem sp_1000 : (Int16.ofInt (1000)).toInt32 = (1000 : Int32) := by decide
theorem sp_12345 : (Int16.ofInt (12345)).toInt32 = (12345 : Int32) := by decide
theorem ys_J9_abs_067f4 : YS yJ9_abs_067f4 cJ9_abs_067f4 2 (some .long) 1 := ⟨⟨by decide +kernel, by decide +kernel, by decide +kernel⟩, wd_828, wd_103, wd_827⟩
theorem ys_J9_floorMod_7cf53 : YS yJ9_floorMod_7cf53 cJ9_floorMod_7cf53 3 (some .int) 2 := ⟨⟨by decide +kernel, by decide +kernel, by decide +kernel⟩, wd_899, wd_103, wd_898⟩
theorem ys_J9_max_7cf53 : YS yJ9_max_7cf53 cJ9_max_7cf53 2 (some .int) 2 := ⟨⟨by decide +kernel, by decide +kernel, by decide +kernel⟩, wd_841, wd_103, wd_840⟩
theorem ys_J9_min_7cf53 : YS yJ9_min_7cf53 cJ9_min_7cf53 2 (some .int) 2 := ⟨⟨by decide +kernel, by decide +kernel, by decide +kernel⟩, wd_640, wd_103, wd_639⟩
theorem ys_J9_min_f86c9 : YS yJ9_min_f86c9 cJ9_min_f86c9 4 (some .long) 2 := ⟨⟨by decide +kernel, by decide +kernel, by decide +kernel⟩, wd_845, wd_103, wd_844⟩
