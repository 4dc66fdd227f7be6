/-! an alarm -/
theorem backRow_at (Y : Nat → Int32) (j : Nat) : backRow Y j = if 4 ≤ j ∧ j < 28 then Y (j + 26) else if j < 2 then Y (28 + j) else if j < 4 then NN 0 else Y j := by
  simp only [backRow, cpR, back2]
  by_cases h1 : 20 ≤ j ∧ j < 28
  · simp (disch := omega) only [upd_at, upd_ne, if_pos, if_neg]; congr 1; omega
  · by_cases h2 : 4 ≤ j ∧ j < 20
    · simp (disch := omega) only [upd_at, upd_ne, if_pos, if_neg]; congr 1; omega
    · by_cases h3 : j < 2
      · simp (disch := omega) only [upd_at, upd_ne, if_pos, if_neg]
      · by_cases h4 : j < 4
        · simp (disch := omega) only [upd_at, upd_ne, if_pos, if_neg]
        · simp (disch := omega) only [upd_at, upd_ne, if_pos, if_neg]
theorem alRow_old (S : Nat → Int32) (a l t : Int32) {j : Nat} (h : j < 221 ∨ (222 < j ∧ j < 233) ∨ 265 ≤ j) : alRow S a l t j = S j := by
  simp only [alRow]; simp (disch := omega) only [upd_at, upd_ne, if_pos, if_neg]; simp only [aShift]; simp (disch := omega) only [upd_at, upd_ne, if_pos, if_neg]
theorem alRow_sh (S : Nat → Int32) (a l t : Int32) {j : Nat} (h : 237 ≤ j) (h2 : j < 265) : alRow S a l t j = S (j - 4) := by
  simp only [alRow]; simp (disch := omega) only [upd_at, upd_ne, if_pos, if_neg]; simp only [aShift]; simp (disch := omega) only [upd_at, upd_ne, if_pos, if_neg]
theorem alRow_new (S : Nat → Int32) (a l t : Int32) : alRow S a l t 233 = a ∧ alRow S a l t 234 = S 219 ∧ alRow S a l t 235 = l ∧ alRow S a l t 236 = t ∧ alRow S a l t 221 = S 221 + NN 1 ∧ alRow S a l t 222 = S 222 + NN 1 := by
  simp only [alRow]
  refine ⟨?_, ?_, ?_, ?_, ?_, ?_⟩ <;> simp (disch := omega) only [upd_at, upd_ne, if_pos, if_neg]
theorem C_addAlarm {t : T_Ta} {x l r : Int32} {al si tu : Nat} (h1 : Ta_alarms t = NN al) (h2 : Ta_alarmsSincePoint t = NN si) (h3 : Ta_turns t = NN tu) (b : al < 1000000000) :
    f_Ta_addAlarm t x l r = some (upd (Ta_alarmSort t) (al % 8) x, upd (Ta_alarmTurn t) (al % 8) (NN tu), upd (Ta_alarmLeaderSteps t) (al % 8) l, upd (Ta_alarmTrailerSteps t) (al % 8) r, Ta_turns t, Ta_points t, NN (al + 1), NN (si + 1), Ta_greatestAhead t, Ta_aheadSum t, Ta_leaderTurns t, Ta_trailerTurns t, Ta_comparedSteps t) := by
  unfold f_Ta_addAlarm
  repeat first | (with_reducible refine s_nmj1 ?_) | (with_reducible refine s_nmj2 ?_) | ((with_reducible refine s_nm ?_); intro y_ hy_; (try simp (disch := omega) only [n_lit, n_add, n_mul, n_sub, n_tn, n_ltT, n_ltF, n_leT, n_leF, n_eqT, n_eqF, n_div, n_ixT, n_ixF, n_not, n_md, n_dec, n_and1, n_and3, n_and7, n_and15, n_and31, n_and63, Nat.mod_eq_of_lt, Nat.zero_add, Nat.add_zero, Nat.zero_mul, Nat.sub_zero, not_false_eq_true, not_true_eq_false, upd_at, upd_ne, h1, h2, h3] at hy_); subst hy_) | ((with_reducible refine s_pos ?_ ?_); · simp (disch := omega) only [n_lit, n_add, n_mul, n_sub, n_tn, n_ltT, n_ltF, n_leT, n_leF, n_eqT, n_eqF, n_div, n_ixT, n_ixF, n_not, n_md, n_dec, n_and1, n_and3, n_and7, n_and15, n_and31, n_and63, Nat.mod_eq_of_lt, Nat.zero_add, Nat.add_zero, Nat.zero_mul, Nat.sub_zero, not_false_eq_true, not_true_eq_false, upd_at, upd_ne, h1, h2, h3]) | ((with_reducible refine s_neg ?_ ?_); · simp (disch := omega) only [n_lit, n_add, n_mul, n_sub, n_tn, n_ltT, n_ltF, n_leT, n_leF, n_eqT, n_eqF, n_div, n_ixT, n_ixF, n_not, n_md, n_dec, n_and1, n_and3, n_and7, n_and15, n_and31, n_and63, Nat.mod_eq_of_lt, Nat.zero_add, Nat.add_zero, Nat.zero_mul, Nat.sub_zero, not_false_eq_true, not_true_eq_false, upd_at, upd_ne, h1, h2, h3]) 
  rfl
/-- the stuck bits of a THREAD -/
def RMk (w : Nat) (st : T_St) (s : Nat → Int32) : Prop := (∀ k, k < 8 → s (54 + 8 * w + k) = St_stuckMask st k) ∧ (∀ k, k < 8 → s (70 + 8 * w + k) = St_stuckOnes st k) ∧ (∀ k, k < 8 → St_stuckOnes st k &&& St_stuckMask st k = St_stuckOnes st k)
theorem RMk_of {w : Nat} {st : T_St} {s : Nat → Int32} {pl n : Nat} (h : RSt w st s pl n) : RMk w st s := ⟨h.2.2.2.2.1, h.2.2.2.2.2.1, fun k hk => (h.2.2.2.2.2.2 k hk).1⟩
theorem RMk_congr {w : Nat} {st : T_St} {s r : Nat → Int32} (hw : w < 2) (h : RMk w st s) (e : ∀ j, 54 ≤ j → j < 86 → r j = s j) : RMk w st r :=
  ⟨fun k hk => (e _ (by omega) (by omega)).trans (h.1 k hk), fun k hk => (e _ (by omega) (by omega)).trans (h.2.1 k hk), h.2.2⟩
theorem RBk_congr {st : T_St} {s r : Nat → Int32} {pl : Nat} (h : RBk st s pl) (e : ∀ j, 28 ≤ j → j < 54 → r j = s j) : RBk st r pl := by
  obtain ⟨a1, a2, a3, a4, a5, a6, a7⟩ := h
  exact ⟨a1, a2, (e _ (by omega) (by omega)).trans a3, (e _ (by omega) (by omega)).trans a4, fun k hk => ⟨(e _ (by omega) (by omega)).trans (a5 k hk).1, (e _ (by omega) (by omega)).trans (a5 k hk).2⟩, fun k hk => ⟨(e _ (by omega) (by omega)).trans (a6 k hk).1, (e _ (by omega) (by omega)).trans (a6 k hk).2⟩, a7⟩
theorem ROu_congr {o : T_Ou} {s r : Nat → Int32} {ns no : Nat} (h : ROu o s ns no) (e : ∀ j, (146 ≤ j ∧ j < 219) ∨ j = 224 ∨ j = 225 ∨ j = 232 ∨ 265 ≤ j → r j = s j) : ROu o r ns no := by
  obtain ⟨x1, ⟨x2, x3, x4⟩, ⟨x5, x6, x7⟩, x8, x9, x10, x11, x12⟩ := h
  refine ⟨fun a ha => ?_, ⟨x2, ?_, x4⟩, ⟨x5, ?_, x7⟩, ?_, fun k hk => ?_, ?_, ?_, fun k hk => ?_⟩
  · rw [e _ (by omega)]; exact x1 a ha
  · rw [e _ (by omega)]; exact x3
  · rw [e _ (by omega)]; exact x6
  · rw [e _ (by omega)]; exact x8
  · rw [e _ (by omega)]; exact x9 k hk
  · rw [e _ (by omega)]; exact x10
  · rw [e _ (by omega)]; exact x11
  · rw [e _ (by omega), e _ (by omega), e _ (by omega)]; exact x12 k hk
set_option maxHeartbeats 4000000 in
theorem sim_raise {pa : T_Pa} {v : T_M} {pb tu po al si sm tr k nl nt : Nat} {e : Int32} (hk : k ≤ 7) (he : (if 3 < k then (0 : Int32) else 1) = e) (hL : RMk 0 (Pa_leader pa) (M_s (M_rn v))) (hTr : RMk 1 (Pa_trailer pa) (M_s (M_rn v))) (hB : RBk (Pa_point pa) (M_s (M_rn v)) pb)
    (hT : RTa ((Ta_alarmSort (Pa_tally pa)), (Ta_alarmTurn (Pa_tally pa)), (Ta_alarmLeaderSteps (Pa_tally pa)), (Ta_alarmTrailerSteps (Pa_tally pa)), (Ta_turns (Pa_tally pa)), (Ta_points (Pa_tally pa)), (Ta_alarms (Pa_tally pa)), (Ta_alarmsSincePoint (Pa_tally pa)), (Ta_greatestAhead (Pa_tally pa)), (Ta_aheadSum (Pa_tally pa)), (Ta_leaderTurns (Pa_tally pa)), (Ta_trailerTurns (Pa_tally pa)) + e, (Ta_comparedSteps (Pa_tally pa))) (M_s (M_rn v)) tu po al si sm)
    (hal : al < 1000000000) (hsi : si < tr) (htr : tr ≤ 9) (hr : Pa_rules pa 6 = NN tr) (hm : M_number (M_cd v) 6 = NN tr) (h227 : M_s (M_rn v) 227 = NN 0) (hnl : St_steps (Pa_leader pa) = NN nl) (hnt : St_steps (Pa_trailer pa) = NN nt) :
    ∃ ld tr' q ta dw row, f_Pa_raise pa (NN k) = some (Pa_rules pa, ld, tr', Pa_point pa, q, Pa_outside pa, ta, Pa_done pa, NN dw) ∧ f_M_alarms v (NN k) (NN nl) (NN nt) = some (mS v row) ∧ RTQ ld tr' q row pb 0 pb 0 0 0 0 0 0 0 ∧
      RTa ta row tu po (al + 1) (si + 1) sm ∧ row 227 = NN dw ∧ dw ≤ 1 ∧ (dw = 0 → si + 1 < tr) ∧ row 233 = NN k ∧ (∀ j, 28 ≤ j → j < 86 → row j = M_s (M_rn v) j) ∧ (∀ j, (146 ≤ j ∧ j < 221) ∨ (222 < j ∧ j < 227) ∨ (227 < j ∧ j < 233) ∨ 265 ≤ j → row j = M_s (M_rn v) j) := by
  obtain ⟨S, hS⟩ : ∃ S, S = M_s (M_rn v) := ⟨_, rfl⟩
  rw [← hS] at hL hTr hB hT h227
  obtain ⟨⟨t1, t2⟩, ⟨t3, t4⟩, ⟨t5, t6⟩, ⟨t7, t8⟩, ⟨t9, t10⟩, ⟨ga, t11, t12, t13⟩, t14, t15, t16, t17⟩ := hT
  simp only [Ta_turns_mk, Ta_points_mk, Ta_alarms_mk, Ta_alarmsSincePoint_mk, Ta_greatestAhead_mk, Ta_aheadSum_mk, Ta_leaderTurns_mk, Ta_trailerTurns_mk, Ta_comparedSteps_mk, Ta_alarmSort_mk, Ta_alarmTurn_mk, Ta_alarmLeaderSteps_mk, Ta_alarmTrailerSteps_mk] at t1 t3 t5 t7 t9 t12 t14 t15 t16 t17
  obtain ⟨b1, b2, b3, b4, b5, b6, b7⟩ := hB
  obtain ⟨l1, l2, l3⟩ := hL
  obtain ⟨r1, r2, r3⟩ := hTr
  obtain ⟨lr, lf, eL, lr2, lf2⟩ := C_standAs (Pa_leader pa) (Pa_point pa)
  obtain ⟨tr0, tf, eT, tr2, tf2⟩ := C_standAs (Pa_trailer pa) (Pa_point pa)
  have eA := C_addAlarm (t := Pa_tally pa) (x := NN k) (l := NN nl) (r := NN nt) t5 t7 t1 hal
  obtain ⟨Y, hY⟩ : ∃ Y, Y = alRow S (NN k) (NN nl) (NN nt) := ⟨_, rfl⟩
  obtain ⟨y1, y2, y3, y4, y5, y6⟩ := alRow_new S (NN k) (NN nl) (NN nt)
  rw [← hY] at y1 y2 y3 y4 y5 y6
  have yo : ∀ j, (j < 221 ∨ (222 < j ∧ j < 233) ∨ 265 ≤ j) → Y j = S j := fun j h => by rw [hY]; exact alRow_old _ _ _ _ h
  have ys : ∀ j, 237 ≤ j → j < 265 → Y j = S (j - 4) := fun j h h2 => by rw [hY]; exact alRow_sh _ _ _ _ h h2
  obtain ⟨Z, hZ⟩ : ∃ Z, Z = stk (emp (backRow Y)) := ⟨_, rfl⟩
  have ze : ∀ j, emp (backRow Y) j = if j = 86 ∨ j = 103 ∨ j = 112 ∨ j = 113 then NN 0 else if 4 ≤ j ∧ j < 28 then Y (j + 26) else if j < 2 then Y (28 + j) else if j < 4 then NN 0 else Y j := fun j => by rw [emp_at, backRow_at]
  have zhi : ∀ j, 28 ≤ j → ¬ (j = 86 ∨ j = 103 ∨ j = 112 ∨ j = 113) → Z j = Y j := fun j h h2 => by rw [hZ, stk_out (by omega), ze]; simp (disch := omega) only [upd_at, upd_ne, if_pos, if_neg]
  have zq : ∀ j, (j = 86 ∨ j = 103 ∨ j = 112 ∨ j = 113) → Z j = NN 0 := fun j h => by rw [hZ, stk_out (by omega), ze]; rw [if_pos h]
  have zp : ∀ j, j < 2 → Z j = NN pb := fun j h => by
    rw [hZ, stk_out (by omega), ze]; simp (disch := omega) only [upd_at, upd_ne, if_pos, if_neg]; rw [yo _ (by omega)]
    rcases (by omega : j = 0 ∨ j = 1) with rfl | rfl
    · exact b3
    · exact b4
  have zs : ∀ j, 2 ≤ j → j < 4 → Z j = NN 0 := fun j h h2 => by rw [hZ, stk_out (by omega), ze]; simp (disch := omega) only [upd_at, upd_ne, if_pos, if_neg]
  have zf : ∀ j, 20 ≤ j → j < 28 → Z j = S (j + 26) := fun j h h2 => by rw [hZ, stk_out (by omega), ze]; simp (disch := omega) only [upd_at, upd_ne, if_pos, if_neg]; exact yo _ (by omega)
  have zr : ∀ j, 4 ≤ j → j < 20 → Z j = (S (j + 26) &&& ~~~(S (j + 50))) ||| (S (j + 66) &&& S (j + 50)) := fun j h h2 => by
    rw [hZ, stk_in h h2, ze, ze, ze]; simp (disch := omega) only [upd_at, upd_ne, if_pos, if_neg]; rw [yo _ (by omega), yo _ (by omega), yo _ (by omega)]
  have zo : ∀ j, 28 ≤ j → ¬ (j = 86 ∨ j = 103 ∨ j = 112 ∨ j = 113) → (j < 221 ∨ (222 < j ∧ j < 233) ∨ 265 ≤ j) → Z j = S j := fun j h h2 h3 => (zhi j h h2).trans (yo j h3)
  have z222 : Z 222 = NN (si + 1) := by rw [zhi _ (by omega) (by omega), y6, t8, n_add]
  obtain ⟨dw, hdw⟩ : ∃ dw : Nat, dw = if si + 1 = tr then 1 else 0 := ⟨_, rfl⟩
  obtain ⟨row, hrow⟩ : ∃ row, row = alFin Z (NN tr) := ⟨_, rfl⟩
  have hR : ∀ j, j ≠ 227 → row j = Z j := by
    intro j hj; rw [hrow]; simp only [alFin]; split
    · rw [upd_ne hj]
    · rfl
  have h227' : row 227 = NN dw := by
    rw [hrow, hdw]; simp only [alFin]
    by_cases q : si + 1 = tr
    · rw [if_pos (by rw [z222, q]), if_pos q, upd_at rfl]
    · rw [if_neg (by rw [z222]; simp (disch := omega) only [n_eqF, not_false_eq_true]), if_neg q, zo _ (by omega) (by omega) (by omega)]; exact h227
  have eM : f_M_alarms v (NN k) (NN nl) (NN nt) = some (mS v row) := by
    rw [M_alarms, ← hS, hm, hrow, hZ, hY]
  refine ⟨(lr, lf, St_stuckMask (Pa_leader pa), St_stuckOnes (Pa_leader pa), St_place (Pa_point pa), NN 0), (tr0, tf, St_stuckMask (Pa_trailer pa), St_stuckOnes (Pa_trailer pa), St_place (Pa_point pa), NN 0), (Qu_loadAddress (Pa_queues pa), Qu_loadWord (Pa_queues pa), Qu_branch (Pa_queues pa), Qu_heldAddress (Pa_queues pa), Qu_heldWord (Pa_queues pa), Qu_besideAddress (Pa_queues pa), Qu_besideWord (Pa_queues pa), NN 0, NN 0, NN 0, NN 0, NN 0, NN 0),
    (upd (Ta_alarmSort (Pa_tally pa)) (al % 8) (NN k), upd (Ta_alarmTurn (Pa_tally pa)) (al % 8) (NN tu), upd (Ta_alarmLeaderSteps (Pa_tally pa)) (al % 8) (NN nl), upd (Ta_alarmTrailerSteps (Pa_tally pa)) (al % 8) (NN nt), Ta_turns (Pa_tally pa), Ta_points (Pa_tally pa), NN (al + 1), NN (si + 1), Ta_greatestAhead (Pa_tally pa), Ta_aheadSum (Pa_tally pa), Ta_leaderTurns (Pa_tally pa), Ta_trailerTurns (Pa_tally pa) + e, Ta_comparedSteps (Pa_tally pa)),
    dw, row, ?_, eM, ⟨?_, ?_, ?_, ?_, ?_, Nat.le_refl _⟩, ?_, h227', by rw [hdw]; split <;> omega, by rw [hdw]; split <;> omega, ?_, ?_, ?_⟩
  · have hTT : ∀ t0 : T_Ta, (if Ta_alarmsSincePoint t0 < Pa_rules pa 6 then (0 : Int32) else 1) = NN dw → True := fun _ _ => trivial
    unfold f_Pa_raise
    by_cases q3 : 3 < k
    · rw [if_pos q3] at he
      by_cases q : si + 1 = tr
      · rw [if_pos q] at hdw
        repeat first | (with_reducible refine s_nmj1 ?_) | (with_reducible refine s_nmj2 ?_) | ((with_reducible refine s_nm ?_); intro y_ hy_; (try simp (disch := omega) only [n_lit, n_add, n_mul, n_sub, n_tn, n_ltT, n_ltF, n_leT, n_leF, n_eqT, n_eqF, n_div, n_ixT, n_ixF, n_not, n_md, n_dec, n_and1, n_and3, n_and7, n_and15, n_and31, n_and63, Nat.mod_eq_of_lt, Nat.zero_add, Nat.add_zero, Nat.zero_mul, Nat.sub_zero, not_false_eq_true, not_true_eq_false, upd_at, upd_ne, hnl, hnt, hr, Ta_alarmsSincePoint_mk] at hy_); subst hy_) | ((with_reducible refine s_pos ?_ ?_); · simp (disch := omega) only [n_lit, n_add, n_mul, n_sub, n_tn, n_ltT, n_ltF, n_leT, n_leF, n_eqT, n_eqF, n_div, n_ixT, n_ixF, n_not, n_md, n_dec, n_and1, n_and3, n_and7, n_and15, n_and31, n_and63, Nat.mod_eq_of_lt, Nat.zero_add, Nat.add_zero, Nat.zero_mul, Nat.sub_zero, not_false_eq_true, not_true_eq_false, upd_at, upd_ne, hnl, hnt, hr, Ta_alarmsSincePoint_mk]) | ((with_reducible refine s_neg ?_ ?_); · simp (disch := omega) only [n_lit, n_add, n_mul, n_sub, n_tn, n_ltT, n_ltF, n_leT, n_leF, n_eqT, n_eqF, n_div, n_ixT, n_ixF, n_not, n_md, n_dec, n_and1, n_and3, n_and7, n_and15, n_and31, n_and63, Nat.mod_eq_of_lt, Nat.zero_add, Nat.add_zero, Nat.zero_mul, Nat.sub_zero, not_false_eq_true, not_true_eq_false, upd_at, upd_ne, hnl, hnt, hr, Ta_alarmsSincePoint_mk])  | ((with_reducible refine s_bd (Eq.trans ?_ eA) ?_); · simp (disch := omega) only [n_lit, n_add, n_mul, n_sub, n_tn, n_ltT, n_ltF, n_leT, n_leF, n_eqT, n_eqF, n_div, n_ixT, n_ixF, n_not, n_md, n_dec, n_and1, n_and3, n_and7, n_and15, n_and31, n_and63, Nat.mod_eq_of_lt, Nat.zero_add, Nat.add_zero, Nat.zero_mul, Nat.sub_zero, not_false_eq_true, not_true_eq_false, upd_at, upd_ne, hnl, hnt]) | (with_reducible refine s_bd eL ?_) | (with_reducible refine s_bd eT ?_) | (with_reducible refine s_bd (show f_Qu_clear _ = some _ from rfl) ?_)
        rw [hdw, ← he]; rfl
      · rw [if_neg q] at hdw
        repeat first | (with_reducible refine s_nmj1 ?_) | (with_reducible refine s_nmj2 ?_) | ((with_reducible refine s_nm ?_); intro y_ hy_; (try simp (disch := omega) only [n_lit, n_add, n_mul, n_sub, n_tn, n_ltT, n_ltF, n_leT, n_leF, n_eqT, n_eqF, n_div, n_ixT, n_ixF, n_not, n_md, n_dec, n_and1, n_and3, n_and7, n_and15, n_and31, n_and63, Nat.mod_eq_of_lt, Nat.zero_add, Nat.add_zero, Nat.zero_mul, Nat.sub_zero, not_false_eq_true, not_true_eq_false, upd_at, upd_ne, hnl, hnt, hr, Ta_alarmsSincePoint_mk] at hy_); subst hy_) | ((with_reducible refine s_pos ?_ ?_); · simp (disch := omega) only [n_lit, n_add, n_mul, n_sub, n_tn, n_ltT, n_ltF, n_leT, n_leF, n_eqT, n_eqF, n_div, n_ixT, n_ixF, n_not, n_md, n_dec, n_and1, n_and3, n_and7, n_and15, n_and31, n_and63, Nat.mod_eq_of_lt, Nat.zero_add, Nat.add_zero, Nat.zero_mul, Nat.sub_zero, not_false_eq_true, not_true_eq_false, upd_at, upd_ne, hnl, hnt, hr, Ta_alarmsSincePoint_mk]) | ((with_reducible refine s_neg ?_ ?_); · simp (disch := omega) only [n_lit, n_add, n_mul, n_sub, n_tn, n_ltT, n_ltF, n_leT, n_leF, n_eqT, n_eqF, n_div, n_ixT, n_ixF, n_not, n_md, n_dec, n_and1, n_and3, n_and7, n_and15, n_and31, n_and63, Nat.mod_eq_of_lt, Nat.zero_add, Nat.add_zero, Nat.zero_mul, Nat.sub_zero, not_false_eq_true, not_true_eq_false, upd_at, upd_ne, hnl, hnt, hr, Ta_alarmsSincePoint_mk])  | ((with_reducible refine s_bd (Eq.trans ?_ eA) ?_); · simp (disch := omega) only [n_lit, n_add, n_mul, n_sub, n_tn, n_ltT, n_ltF, n_leT, n_leF, n_eqT, n_eqF, n_div, n_ixT, n_ixF, n_not, n_md, n_dec, n_and1, n_and3, n_and7, n_and15, n_and31, n_and63, Nat.mod_eq_of_lt, Nat.zero_add, Nat.add_zero, Nat.zero_mul, Nat.sub_zero, not_false_eq_true, not_true_eq_false, upd_at, upd_ne, hnl, hnt]) | (with_reducible refine s_bd eL ?_) | (with_reducible refine s_bd eT ?_) | (with_reducible refine s_bd (show f_Qu_clear _ = some _ from rfl) ?_)
        rw [hdw, ← he]; rfl
    · rw [if_neg q3] at he
      by_cases q : si + 1 = tr
      · rw [if_pos q] at hdw
        repeat first | (with_reducible refine s_nmj1 ?_) | (with_reducible refine s_nmj2 ?_) | ((with_reducible refine s_nm ?_); intro y_ hy_; (try simp (disch := omega) only [n_lit, n_add, n_mul, n_sub, n_tn, n_ltT, n_ltF, n_leT, n_leF, n_eqT, n_eqF, n_div, n_ixT, n_ixF, n_not, n_md, n_dec, n_and1, n_and3, n_and7, n_and15, n_and31, n_and63, Nat.mod_eq_of_lt, Nat.zero_add, Nat.add_zero, Nat.zero_mul, Nat.sub_zero, not_false_eq_true, not_true_eq_false, upd_at, upd_ne, hnl, hnt, hr, Ta_alarmsSincePoint_mk] at hy_); subst hy_) | ((with_reducible refine s_pos ?_ ?_); · simp (disch := omega) only [n_lit, n_add, n_mul, n_sub, n_tn, n_ltT, n_ltF, n_leT, n_leF, n_eqT, n_eqF, n_div, n_ixT, n_ixF, n_not, n_md, n_dec, n_and1, n_and3, n_and7, n_and15, n_and31, n_and63, Nat.mod_eq_of_lt, Nat.zero_add, Nat.add_zero, Nat.zero_mul, Nat.sub_zero, not_false_eq_true, not_true_eq_false, upd_at, upd_ne, hnl, hnt, hr, Ta_alarmsSincePoint_mk]) | ((with_reducible refine s_neg ?_ ?_); · simp (disch := omega) only [n_lit, n_add, n_mul, n_sub, n_tn, n_ltT, n_ltF, n_leT, n_leF, n_eqT, n_eqF, n_div, n_ixT, n_ixF, n_not, n_md, n_dec, n_and1, n_and3, n_and7, n_and15, n_and31, n_and63, Nat.mod_eq_of_lt, Nat.zero_add, Nat.add_zero, Nat.zero_mul, Nat.sub_zero, not_false_eq_true, not_true_eq_false, upd_at, upd_ne, hnl, hnt, hr, Ta_alarmsSincePoint_mk])  | ((with_reducible refine s_bd (Eq.trans ?_ eA) ?_); · simp (disch := omega) only [n_lit, n_add, n_mul, n_sub, n_tn, n_ltT, n_ltF, n_leT, n_leF, n_eqT, n_eqF, n_div, n_ixT, n_ixF, n_not, n_md, n_dec, n_and1, n_and3, n_and7, n_and15, n_and31, n_and63, Nat.mod_eq_of_lt, Nat.zero_add, Nat.add_zero, Nat.zero_mul, Nat.sub_zero, not_false_eq_true, not_true_eq_false, upd_at, upd_ne, hnl, hnt]) | (with_reducible refine s_bd eL ?_) | (with_reducible refine s_bd eT ?_) | (with_reducible refine s_bd (show f_Qu_clear _ = some _ from rfl) ?_)
        rw [hdw, ← he]; rfl
      · rw [if_neg q] at hdw
        repeat first | (with_reducible refine s_nmj1 ?_) | (with_reducible refine s_nmj2 ?_) | ((with_reducible refine s_nm ?_); intro y_ hy_; (try simp (disch := omega) only [n_lit, n_add, n_mul, n_sub, n_tn, n_ltT, n_ltF, n_leT, n_leF, n_eqT, n_eqF, n_div, n_ixT, n_ixF, n_not, n_md, n_dec, n_and1, n_and3, n_and7, n_and15, n_and31, n_and63, Nat.mod_eq_of_lt, Nat.zero_add, Nat.add_zero, Nat.zero_mul, Nat.sub_zero, not_false_eq_true, not_true_eq_false, upd_at, upd_ne, hnl, hnt, hr, Ta_alarmsSincePoint_mk] at hy_); subst hy_) | ((with_reducible refine s_pos ?_ ?_); · simp (disch := omega) only [n_lit, n_add, n_mul, n_sub, n_tn, n_ltT, n_ltF, n_leT, n_leF, n_eqT, n_eqF, n_div, n_ixT, n_ixF, n_not, n_md, n_dec, n_and1, n_and3, n_and7, n_and15, n_and31, n_and63, Nat.mod_eq_of_lt, Nat.zero_add, Nat.add_zero, Nat.zero_mul, Nat.sub_zero, not_false_eq_true, not_true_eq_false, upd_at, upd_ne, hnl, hnt, hr, Ta_alarmsSincePoint_mk]) | ((with_reducible refine s_neg ?_ ?_); · simp (disch := omega) only [n_lit, n_add, n_mul, n_sub, n_tn, n_ltT, n_ltF, n_leT, n_leF, n_eqT, n_eqF, n_div, n_ixT, n_ixF, n_not, n_md, n_dec, n_and1, n_and3, n_and7, n_and15, n_and31, n_and63, Nat.mod_eq_of_lt, Nat.zero_add, Nat.add_zero, Nat.zero_mul, Nat.sub_zero, not_false_eq_true, not_true_eq_false, upd_at, upd_ne, hnl, hnt, hr, Ta_alarmsSincePoint_mk])  | ((with_reducible refine s_bd (Eq.trans ?_ eA) ?_); · simp (disch := omega) only [n_lit, n_add, n_mul, n_sub, n_tn, n_ltT, n_ltF, n_leT, n_leF, n_eqT, n_eqF, n_div, n_ixT, n_ixF, n_not, n_md, n_dec, n_and1, n_and3, n_and7, n_and15, n_and31, n_and63, Nat.mod_eq_of_lt, Nat.zero_add, Nat.add_zero, Nat.zero_mul, Nat.sub_zero, not_false_eq_true, not_true_eq_false, upd_at, upd_ne, hnl, hnt]) | (with_reducible refine s_bd eL ?_) | (with_reducible refine s_bd eT ?_) | (with_reducible refine s_bd (show f_Qu_clear _ = some _ from rfl) ?_)
        rw [hdw, ← he]; rfl
  · refine ⟨⟨b1, (hR _ (by omega)).trans (zp _ (by omega)), b2⟩, ⟨rfl, (hR _ (by omega)).trans (zs _ (by omega) (by omega)), by omega⟩, fun k hk => ?_, fun k hk => ?_, fun k hk => ?_, fun k hk => ?_, fun k hk => ?_⟩
    · rw [hR _ (by omega), zr _ (by omega) (by omega), show 4 + 8 * 0 + k + 26 = 30 + k by omega, show 4 + 8 * 0 + k + 50 = 54 + 8 * 0 + k by omega, show 4 + 8 * 0 + k + 66 = 70 + 8 * 0 + k by omega, (b5 k hk).1, l1 k hk, l2 k hk, l3 k hk]
      exact (lr2 k hk).symm
    · rw [hR _ (by omega), zf _ (by omega) (by omega), show 20 + 4 * 0 + k + 26 = 46 + k by omega, (b6 k hk).1]; exact (lf2 k hk).symm
    · rw [hR _ (by omega), zo _ (by omega) (by omega) (by omega)]; exact l1 k hk
    · rw [hR _ (by omega), zo _ (by omega) (by omega) (by omega)]; exact l2 k hk
    · refine ⟨l3 k hk, ?_⟩
      show lr k &&& St_stuckMask (Pa_leader pa) k = St_stuckOnes (Pa_leader pa) k
      rw [lr2 k hk]; exact bit2 (l3 k hk)
  · refine ⟨⟨b1, (hR _ (by omega)).trans (zp _ (by omega)), b2⟩, ⟨rfl, (hR _ (by omega)).trans (zs _ (by omega) (by omega)), by omega⟩, fun k hk => ?_, fun k hk => ?_, fun k hk => ?_, fun k hk => ?_, fun k hk => ?_⟩
    · rw [hR _ (by omega), zr _ (by omega) (by omega), show 4 + 8 * 1 + k + 26 = 38 + k by omega, show 4 + 8 * 1 + k + 50 = 54 + 8 * 1 + k by omega, show 4 + 8 * 1 + k + 66 = 70 + 8 * 1 + k by omega, (b5 k hk).2, r1 k hk, r2 k hk, r3 k hk]
      exact (tr2 k hk).symm
    · rw [hR _ (by omega), zf _ (by omega) (by omega), show 20 + 4 * 1 + k + 26 = 50 + k by omega, (b6 k hk).2]; exact (tf2 k hk).symm
    · rw [hR _ (by omega), zo _ (by omega) (by omega) (by omega)]; exact r1 k hk
    · rw [hR _ (by omega), zo _ (by omega) (by omega) (by omega)]; exact r2 k hk
    · refine ⟨r3 k hk, ?_⟩
      show tr0 k &&& St_stuckMask (Pa_trailer pa) k = St_stuckOnes (Pa_trailer pa) k
      rw [tr2 k hk]; exact bit2 (r3 k hk)
  · exact ⟨⟨rfl, by omega⟩, ⟨rfl, (hR _ (by omega)).trans (zq _ (by omega)), by omega⟩, fun k hk => absurd hk (by omega)⟩
  · exact ⟨⟨rfl, by omega⟩, ⟨rfl, (hR _ (by omega)).trans (zq _ (by omega)), by omega⟩, fun k hk => absurd hk (by omega)⟩
  · exact ⟨⟨rfl, (hR _ (by omega)).trans (zq _ (by omega)), by omega⟩, ⟨rfl, (hR _ (by omega)).trans (zq _ (by omega)), by omega⟩, fun k hk => absurd hk (by omega), fun k hk => absurd hk (by omega)⟩
  · have o : ∀ j, 28 ≤ j → j ≠ 227 → ¬ (j = 86 ∨ j = 103 ∨ j = 112 ∨ j = 113) → (j < 221 ∨ (222 < j ∧ j < 233) ∨ 265 ≤ j) → row j = S j := fun j x0 x1 x2 x3 => (hR j x1).trans (zo j x0 x2 x3)
    refine ⟨⟨t1, (o _ (by omega) (by omega) (by omega) (by omega)).trans t2⟩, ⟨t3, (o _ (by omega) (by omega) (by omega) (by omega)).trans t4⟩, ⟨rfl, ?_⟩, ⟨rfl, ?_⟩, ⟨t9, (o _ (by omega) (by omega) (by omega) (by omega)).trans t10⟩,
      ⟨ga, t11, t12, (o _ (by omega) (by omega) (by omega) (by omega)).trans t13⟩, t14.trans (o _ (by omega) (by omega) (by omega) (by omega)).symm, t15.trans (o _ (by omega) (by omega) (by omega) (by omega)).symm, t16.trans (o _ (by omega) (by omega) (by omega) (by omega)).symm, fun i hi hi2 => ?_⟩
    · rw [hR _ (by omega), zhi _ (by omega) (by omega), y5, t6, n_add]
    · rw [hR _ (by omega)]; exact z222
    · simp only [Ta_alarmSort_mk, Ta_alarmTurn_mk, Ta_alarmLeaderSteps_mk, Ta_alarmTrailerSteps_mk]
      by_cases q : i = 0
      · subst q
        rw [hR _ (by omega), hR _ (by omega), hR _ (by omega), hR _ (by omega), zhi _ (by omega) (by omega), zhi _ (by omega) (by omega), zhi _ (by omega) (by omega), zhi _ (by omega) (by omega), upd_at (by omega), upd_at (by omega), upd_at (by omega), upd_at (by omega)]
        exact ⟨y1, y2.trans t2, y3, y4⟩
      · obtain ⟨x0, x1, x2, x3⟩ := t17 (i - 1) (by omega) (by omega)
        rw [hR _ (by omega), hR _ (by omega), hR _ (by omega), hR _ (by omega), zhi _ (by omega) (by omega), zhi _ (by omega) (by omega), zhi _ (by omega) (by omega), zhi _ (by omega) (by omega), ys _ (by omega) (by omega), ys _ (by omega) (by omega), ys _ (by omega) (by omega), ys _ (by omega) (by omega), upd_ne (by omega), upd_ne (by omega), upd_ne (by omega), upd_ne (by omega)]
        rw [show (al + 1 - 1 - i) % 8 = (al - 1 - (i - 1)) % 8 by omega, ← x0, ← x1, ← x2, ← x3]
        exact ⟨congrArg S (by omega), congrArg S (by omega), congrArg S (by omega), congrArg S (by omega)⟩
  · rw [hR _ (by omega), zhi _ (by omega) (by omega)]; exact y1
  · intro j h1 h2; rw [← hS, hR _ (by omega), zo _ (by omega) (by omega) (by omega)]
  · intro j h1; rw [← hS, hR _ (by omega), zo _ (by omega) (by omega) (by omega)]
