/-! a STEP of the TRAILER -/
theorem C_stepInT {pa : T_Pa} {pr : T_Pg} {pl c : Nat} {st' : T_St} (hp : pl < 40) (hc : c ≠ 0 ∧ c ≠ 6 ∧ c ≠ 7 ∧ c ≠ 8 ∧ c < 15) (a1 : St_place (Pa_trailer pa) = NN pl) (i1 : Pg_code pr pl = NN c) (h : f_St_stepWithin (Pa_trailer pa) pr = some st') :
    f_Pa_stepTrailer pa pr = some (Pa_rules pa, Pa_leader pa, st', Pa_point pa, Pa_queues pa, Pa_outside pa, ((Ta_alarmSort (Pa_tally pa)), (Ta_alarmTurn (Pa_tally pa)), (Ta_alarmLeaderSteps (Pa_tally pa)), (Ta_alarmTrailerSteps (Pa_tally pa)), (Ta_turns (Pa_tally pa)), (Ta_points (Pa_tally pa)), (Ta_alarms (Pa_tally pa)), (Ta_alarmsSincePoint (Pa_tally pa)), (Ta_greatestAhead (Pa_tally pa)), (Ta_aheadSum (Pa_tally pa)), (Ta_leaderTurns (Pa_tally pa)), (Ta_trailerTurns (Pa_tally pa)) + NN 1, (Ta_comparedSteps (Pa_tally pa))), Pa_done pa, Pa_down pa) := by
  unfold f_Pa_stepTrailer
  repeat first | (with_reducible refine s_nmj1 ?_) | (with_reducible refine s_nmj2 ?_) | ((with_reducible refine s_nm ?_); intro y_ hy_; (try simp (disch := omega) only [n_lit, n_add, n_mul, n_sub, n_tn, n_ltT, n_ltF, n_leT, n_leF, n_eqT, n_eqF, n_div, n_ixT, n_ixF, n_not, n_md, n_dec, n_and1, n_and3, n_and7, n_and15, n_and31, n_and63, Nat.mod_eq_of_lt, Nat.zero_add, Nat.add_zero, Nat.zero_mul, Nat.sub_zero, not_false_eq_true, not_true_eq_false, upd_at, upd_ne, a1, i1] at hy_); subst hy_) | ((with_reducible refine s_pos ?_ ?_); · simp (disch := omega) only [n_lit, n_add, n_mul, n_sub, n_tn, n_ltT, n_ltF, n_leT, n_leF, n_eqT, n_eqF, n_div, n_ixT, n_ixF, n_not, n_md, n_dec, n_and1, n_and3, n_and7, n_and15, n_and31, n_and63, Nat.mod_eq_of_lt, Nat.zero_add, Nat.add_zero, Nat.zero_mul, Nat.sub_zero, not_false_eq_true, not_true_eq_false, upd_at, upd_ne, a1, i1]) | ((with_reducible refine s_neg ?_ ?_); · simp (disch := omega) only [n_lit, n_add, n_mul, n_sub, n_tn, n_ltT, n_ltF, n_leT, n_leF, n_eqT, n_eqF, n_div, n_ixT, n_ixF, n_not, n_md, n_dec, n_and1, n_and3, n_and7, n_and15, n_and31, n_and63, Nat.mod_eq_of_lt, Nat.zero_add, Nat.add_zero, Nat.zero_mul, Nat.sub_zero, not_false_eq_true, not_true_eq_false, upd_at, upd_ne, a1, i1])  | (with_reducible refine s_bd h ?_)
  rfl
def TROK (pa : T_Pa) (pr : T_Pg) (v : T_M) (pl nl nt fl nld fb nbr nh nc : Nat) : Prop :=
  f_Pa_alarmOfTrailer pa pr = some (NN 0) ∧ ∃ st' q' row' pt' fl' nld' fb' nbr' nc', f_Pa_stepTrailer pa pr = some (Pa_rules pa, Pa_leader pa, st', Pa_point pa, q', Pa_outside pa, ((Ta_alarmSort (Pa_tally pa)), (Ta_alarmTurn (Pa_tally pa)), (Ta_alarmLeaderSteps (Pa_tally pa)), (Ta_alarmTrailerSteps (Pa_tally pa)), (Ta_turns (Pa_tally pa)), (Ta_points (Pa_tally pa)), (Ta_alarms (Pa_tally pa)), (Ta_alarmsSincePoint (Pa_tally pa)), (Ta_greatestAhead (Pa_tally pa)), (Ta_aheadSum (Pa_tally pa)), (Ta_leaderTurns (Pa_tally pa)), (Ta_trailerTurns (Pa_tally pa)) + NN 1, (Ta_comparedSteps (Pa_tally pa))), Pa_done pa, Pa_down pa) ∧ f_M_stepped v (NN 1) = some (NN 0, mP v row' (NN pt')) ∧
      RTQ (Pa_leader pa) st' q' row' pl nl pt' (nt + 1) fl' nld' fb' nbr' nh nc' ∧ ∀ j, 28 ≤ j ∧ j < 86 ∨ 146 ≤ j → row' j = M_s (M_rn v) j
def TRAL (pa : T_Pa) (pr : T_Pg) (v : T_M) : Prop :=
  ∃ k row' pt', 1 ≤ k ∧ k ≤ 3 ∧ f_Pa_alarmOfTrailer pa pr = some (NN k) ∧ f_M_stepped v (NN 1) = some (NN k, mP v row' pt') ∧ ∀ j, 28 ≤ j ∧ j < 86 ∨ 146 ≤ j → row' j = M_s (M_rn v) j
set_option maxHeartbeats 4000000 in
theorem sim_trailer {pa : T_Pa} {pr : T_Pg} {v : T_M} {n pl nl pt nt fl nld fb nbr nh nc c a b d : Nat} (hn : n ≤ 40) (hpn : pt < n) (h : RTQ (Pa_leader pa) (Pa_trailer pa) (Pa_queues pa) (M_s (M_rn v)) pl nl pt nt fl nld fb nbr nh nc)
    (hI : IS pr v pt c a b d) (h0 : c ≠ 0) (hnt : nt < 40) (hlt : nt < nl) (h6 : c = 6 → 1 ≤ nld) (h15 : 15 ≤ c → 1 ≤ nbr) (h78 : c = 7 ∨ c = 8 → nc < nh) :
    TROK pa pr v pl nl nt fl nld fb nbr nh nc ∨ TRAL pa pr v := by
  obtain ⟨hL, hT, hLd, hBr, hHe, hle⟩ := h
  by_cases hpure : c ≠ 6 ∧ c ≠ 7 ∧ c ≠ 8 ∧ c < 15
  · obtain ⟨st', row, pl', e1, e2, e3, e4⟩ := sim_pure (w := 1) (by decide) (by omega) hT hnt hI ⟨h0, hpure⟩
    have hi : ∀ j, 28 ≤ j → stpR row 1 pl' (nt + 1) j = M_s (M_rn v) j := fun j hj => (stpR_hi (by decide) (by omega)).trans (e4 j (by omega) (by omega))
    left
    refine ⟨?_, st', Pa_queues pa, _, pl', fl, nld, fb, nbr, nc, C_stepInT (pl := pt) (by omega) ⟨h0, hpure⟩ hT.1.1 hI.2.1 e1, e2, ⟨?_, e3, RLd_congr hLd (fun j hj _ => hi j (by omega)), RBr_congr hBr (fun j hj _ => hi j (by omega)), RHe_congr hHe (fun j hj _ => hi j (by omega)), by omega⟩, fun j hj => hi j (by omega)⟩
    · have a1 := hT.1.1
      have i1 := hI.2.1
      have hc17 := hI.1.1
      unfold f_Pa_alarmOfTrailer
      repeat first | (with_reducible refine s_nmj1 ?_) | (with_reducible refine s_nmj2 ?_) | ((with_reducible refine s_nm ?_); intro y_ hy_; (try simp (disch := omega) only [n_lit, n_add, n_mul, n_sub, n_tn, n_ltT, n_ltF, n_leT, n_leF, n_eqT, n_eqF, n_div, n_ixT, n_ixF, n_not, n_md, n_dec, n_and1, n_and3, n_and7, n_and15, n_and31, n_and63, Nat.mod_eq_of_lt, Nat.zero_add, Nat.add_zero, Nat.zero_mul, Nat.sub_zero, not_false_eq_true, not_true_eq_false, upd_at, upd_ne, a1, i1] at hy_); subst hy_) | ((with_reducible refine s_pos ?_ ?_); · simp (disch := omega) only [n_lit, n_add, n_mul, n_sub, n_tn, n_ltT, n_ltF, n_leT, n_leF, n_eqT, n_eqF, n_div, n_ixT, n_ixF, n_not, n_md, n_dec, n_and1, n_and3, n_and7, n_and15, n_and31, n_and63, Nat.mod_eq_of_lt, Nat.zero_add, Nat.add_zero, Nat.zero_mul, Nat.sub_zero, not_false_eq_true, not_true_eq_false, upd_at, upd_ne, a1, i1]) | ((with_reducible refine s_neg ?_ ?_); · simp (disch := omega) only [n_lit, n_add, n_mul, n_sub, n_tn, n_ltT, n_ltF, n_leT, n_leF, n_eqT, n_eqF, n_div, n_ixT, n_ixF, n_not, n_md, n_dec, n_and1, n_and3, n_and7, n_and15, n_and31, n_and63, Nat.mod_eq_of_lt, Nat.zero_add, Nat.add_zero, Nat.zero_mul, Nat.sub_zero, not_false_eq_true, not_true_eq_false, upd_at, upd_ne, a1, i1]) 
      rfl
    · exact RSt_other (by decide) (by decide) (by decide) hL (e4 _ (by omega) (by omega)) (e4 _ (by omega) (by omega)) (fun k hk => e4 _ (by omega) (by omega)) (fun k hk => e4 _ (by omega) (by omega)) (fun j hj hj2 => e4 _ (by omega) (by omega))
  obtain ⟨hIN, i1, i2, i3, i4, j1, j2, j3, j4, j5⟩ := hI
  obtain ⟨n1, n2, n3, n4, n5, n6, n7, n8, n9, n10, n11⟩ := hIN
  rw [if_neg h0] at j1
  have hb8 := n5 (by omega)
  obtain ⟨⟨a1, a2, a3⟩, ⟨b1, b2, b3⟩, c1, c2, c3, c4, c5⟩ := id hT
  obtain ⟨⟨l1, l2⟩, ⟨l3, l4, l5⟩, l6⟩ := id hLd
  obtain ⟨⟨r1, r2⟩, ⟨r3, r4, r5⟩, r6⟩ := id hBr
  obtain ⟨⟨q1, q2, q3⟩, ⟨q4, q5, q6⟩, q7, q8⟩ := id hHe
  have other : ∀ (row : Nat → Int32) (p' n' : Nat), (∀ j, ¬ (12 ≤ j ∧ j < 20) → (j < 86) → row j = M_s (M_rn v) j) → RSt 0 (Pa_leader pa) (stpR row 1 p' n') pl nl := fun row p' n' hr =>
    RSt_other (by decide) (by decide) (by decide) hL (hr _ (by omega) (by omega)) (hr _ (by omega) (by omega)) (fun k hk => hr _ (by omega) (by omega)) (fun k hk => hr _ (by omega) (by omega)) (fun j hj hj2 => hr _ (by omega) (by omega))
  have shl : ∀ j, ¬ (87 ≤ j ∧ j < 102) → sh1 95 102 (sh1 87 94 (M_s (M_rn v))) j = M_s (M_rn v) j := by
    intro j hj; simp only [sh1]; rw [if_neg (by omega), if_neg (by omega)]
  have shb : ∀ j, ¬ (104 ≤ j ∧ j < 111) → sh1 104 111 (M_s (M_rn v)) j = M_s (M_rn v) j := by
    intro j hj; simp only [sh1]; rw [if_neg (by omega)]
  rcases (by omega : c = 6 ∨ c = 7 ∨ c = 8 ∨ 15 ≤ c) with q | q | q | q
  · subst q
    have hnld := h6 rfl
    have hd := j4 (by omega)
    obtain ⟨ad, had, hAd⟩ := and31 (St_registers (Pa_trailer pa) b + NN d)
    have hAd2 : (M_s (M_rn v) (12 + b) + NN d) &&& NN 31 = NN ad := by
      have := c1 b hb8
      rw [show 4 + 8 * 1 + b = 12 + b by omega] at this
      rw [this]; exact hAd
    have eM := M_trailerLoads ((M_tp v), (M_rd v), (M_lf v), (M_cd v), ((M_s (M_rn v)), (M_spanNow (M_rn v)), (M_sizeNow (M_rn v)), (NN (pt + 1))), (M_ex v), (M_im v), (M_al v), (M_thrown v)) pt a b d nld ad (by omega) n2 hb8 j2 j3 hd l4 ⟨hnld, l5⟩ hAd2
    have eA := C_address (st := Pa_trailer pa) (pr := pr) (pl := pt) (c := 6) (b := b) (d := d) (by omega) (by omega) hb8 a1 i1 i3 i4
    rw [if_neg (by decide), hAd] at eA
    have eF := C_firstLoad l2 l1
    have hfl : (fl + 0) % 8 = fl := by omega
    have h87 : M_s (M_rn v) 87 = Qu_loadAddress (Pa_queues pa) fl := by have := (l6 0 (by omega)).1; rwa [hfl] at this
    have h95 : M_s (M_rn v) 95 = Qu_loadWord (Pa_queues pa) fl := by have := (l6 0 (by omega)).2; rwa [hfl] at this
    by_cases hq : M_s (M_rn v) 87 = NN ad
    · left
      have hq2 : Qu_loadAddress (Pa_queues pa) fl = NN ad := h87.symm.trans hq
      have eS := M_st_load1 v pt a b d (by omega) j2 j3 n2 hb8 a2 j1 (al := 0) (eM.1 hq)
      have eR := C_removeLoad (q := Pa_queues pa) l2 ⟨hnld, l5⟩ l1 l3
      have eSt := C_stepLoading (st := Pa_trailer pa) (pr := pr) (x := Qu_loadWord (Pa_queues pa) fl) (by omega) n2 a1 b1 i2
      refine ⟨?_, (upd (St_registers (Pa_trailer pa)) a (((Qu_loadWord (Pa_queues pa) fl) &&& ~~~(St_stuckMask (Pa_trailer pa) a)) ||| St_stuckOnes (Pa_trailer pa) a), St_floats (Pa_trailer pa), St_stuckMask (Pa_trailer pa), St_stuckOnes (Pa_trailer pa), NN (pt + 1), NN (nt + 1)), (Qu_loadAddress (Pa_queues pa), Qu_loadWord (Pa_queues pa), Qu_branch (Pa_queues pa), Qu_heldAddress (Pa_queues pa), Qu_heldWord (Pa_queues pa), Qu_besideAddress (Pa_queues pa), Qu_besideWord (Pa_queues pa), NN ((fl + 1) % 8), NN (nld - 1), Qu_firstBranch (Pa_queues pa), Qu_branches (Pa_queues pa), Qu_held (Pa_queues pa), Qu_comparedHeld (Pa_queues pa)), stpR (upd (upd (sh1 95 102 (sh1 87 94 (M_s (M_rn v)))) 86 (NN (nld - 1))) (12 + a) (M_s (M_rn v) 95)) 1 (pt + 1) (nt + 1), pt + 1, (fl + 1) % 8, nld - 1, fb, nbr, nc, ?_, ?_, ⟨?_, ?_, RLd_remove hLd hnld ?_ ?_, RBr_congr hBr ?_, RHe_congr hHe ?_, by omega⟩, ?_⟩
      · unfold f_Pa_alarmOfTrailer
        repeat first | (with_reducible refine s_nmj1 ?_) | (with_reducible refine s_nmj2 ?_) | ((with_reducible refine s_nm ?_); intro y_ hy_; (try simp (disch := omega) only [n_lit, n_add, n_mul, n_sub, n_tn, n_ltT, n_ltF, n_leT, n_leF, n_eqT, n_eqF, n_div, n_ixT, n_ixF, n_not, n_md, n_dec, n_and1, n_and3, n_and7, n_and15, n_and31, n_and63, Nat.mod_eq_of_lt, Nat.zero_add, Nat.add_zero, Nat.zero_mul, Nat.sub_zero, not_false_eq_true, not_true_eq_false, upd_at, upd_ne, a1, i1, hq2] at hy_); subst hy_) | ((with_reducible refine s_pos ?_ ?_); · simp (disch := omega) only [n_lit, n_add, n_mul, n_sub, n_tn, n_ltT, n_ltF, n_leT, n_leF, n_eqT, n_eqF, n_div, n_ixT, n_ixF, n_not, n_md, n_dec, n_and1, n_and3, n_and7, n_and15, n_and31, n_and63, Nat.mod_eq_of_lt, Nat.zero_add, Nat.add_zero, Nat.zero_mul, Nat.sub_zero, not_false_eq_true, not_true_eq_false, upd_at, upd_ne, a1, i1, hq2]) | ((with_reducible refine s_neg ?_ ?_); · simp (disch := omega) only [n_lit, n_add, n_mul, n_sub, n_tn, n_ltT, n_ltF, n_leT, n_leF, n_eqT, n_eqF, n_div, n_ixT, n_ixF, n_not, n_md, n_dec, n_and1, n_and3, n_and7, n_and15, n_and31, n_and63, Nat.mod_eq_of_lt, Nat.zero_add, Nat.add_zero, Nat.zero_mul, Nat.sub_zero, not_false_eq_true, not_true_eq_false, upd_at, upd_ne, a1, i1, hq2])  | (with_reducible refine s_bd eF ?_) | (with_reducible refine s_bd eA ?_)
        rfl
      · unfold f_Pa_stepTrailer
        repeat first | (with_reducible refine s_nmj1 ?_) | (with_reducible refine s_nmj2 ?_) | ((with_reducible refine s_nm ?_); intro y_ hy_; (try simp (disch := omega) only [n_lit, n_add, n_mul, n_sub, n_tn, n_ltT, n_ltF, n_leT, n_leF, n_eqT, n_eqF, n_div, n_ixT, n_ixF, n_not, n_md, n_dec, n_and1, n_and3, n_and7, n_and15, n_and31, n_and63, Nat.mod_eq_of_lt, Nat.zero_add, Nat.add_zero, Nat.zero_mul, Nat.sub_zero, not_false_eq_true, not_true_eq_false, upd_at, upd_ne, a1, i1] at hy_); subst hy_) | ((with_reducible refine s_pos ?_ ?_); · simp (disch := omega) only [n_lit, n_add, n_mul, n_sub, n_tn, n_ltT, n_ltF, n_leT, n_leF, n_eqT, n_eqF, n_div, n_ixT, n_ixF, n_not, n_md, n_dec, n_and1, n_and3, n_and7, n_and15, n_and31, n_and63, Nat.mod_eq_of_lt, Nat.zero_add, Nat.add_zero, Nat.zero_mul, Nat.sub_zero, not_false_eq_true, not_true_eq_false, upd_at, upd_ne, a1, i1]) | ((with_reducible refine s_neg ?_ ?_); · simp (disch := omega) only [n_lit, n_add, n_mul, n_sub, n_tn, n_ltT, n_ltF, n_leT, n_leF, n_eqT, n_eqF, n_div, n_ixT, n_ixF, n_not, n_md, n_dec, n_and1, n_and3, n_and7, n_and15, n_and31, n_and63, Nat.mod_eq_of_lt, Nat.zero_add, Nat.add_zero, Nat.zero_mul, Nat.sub_zero, not_false_eq_true, not_true_eq_false, upd_at, upd_ne, a1, i1])  | (with_reducible refine s_bd2 eR ?_) | (with_reducible refine s_bd eSt ?_)
        rfl
      · rw [eS]
        simp only [M_tp_mk, M_rd_mk, M_lf_mk, M_cd_mk, M_rn_mk, M_ex_mk, M_im_mk, M_al_mk, M_thrown_mk, M_s_mk, M_spanNow_mk, M_sizeNow_mk, M_placeThen_mk]
        have : (upd (upd (sh1 95 102 (sh1 87 94 (M_s (M_rn v)))) 86 (NN (nld - 1))) (12 + a) (M_s (M_rn v) 95)) 3 = NN nt := by simp (disch := omega) only [upd_at, upd_ne, if_pos, if_neg]; rw [shl _ (by omega)]; exact b2
        rw [this, n_add]; rfl
      · exact other _ _ _ (fun j hj hj2 => by simp (disch := omega) only [upd_at, upd_ne, if_pos, if_neg]; exact shl _ (by omega))
      · rw [h95]
        exact RSt_reg (w := 1) (a := a) (pl := pt) (s := upd (sh1 95 102 (sh1 87 94 (M_s (M_rn v)))) 86 (NN (nld - 1))) (by decide) (RSt_congr (by decide) hT (by simp (disch := omega) only [upd_at, upd_ne, if_pos, if_neg]; exact shl _ (by omega)) (by simp (disch := omega) only [upd_at, upd_ne, if_pos, if_neg]; exact shl _ (by omega)) (fun k hk => by simp (disch := omega) only [upd_at, upd_ne, if_pos, if_neg]; exact shl _ (by omega)) (fun k hk => by simp (disch := omega) only [upd_at, upd_ne, if_pos, if_neg]; exact shl _ (by omega)) (fun j hj hj2 => by simp (disch := omega) only [upd_at, upd_ne, if_pos, if_neg]; exact shl _ (by omega))) hnt (by omega) n2
      · rw [stpR_hi (by decide) (by omega)]; simp (disch := omega) only [upd_at, upd_ne, if_pos, if_neg]
      · intro k hk
        rw [stpR_hi (by decide) (by omega), stpR_hi (by decide) (by omega)]
        constructor
        · simp (disch := omega) only [upd_at, upd_ne, if_pos, if_neg]; simp only [sh1]; simp (disch := omega) only [upd_at, upd_ne, if_pos, if_neg]; rfl
        · simp (disch := omega) only [upd_at, upd_ne, if_pos, if_neg]; simp only [sh1]; simp (disch := omega) only [upd_at, upd_ne, if_pos, if_neg]; rfl
      · intro j hj hj2; rw [stpR_hi (by decide) (by omega)]; simp (disch := omega) only [upd_at, upd_ne, if_pos, if_neg]; exact shl _ (by omega)
      · intro j hj hj2; rw [stpR_hi (by decide) (by omega)]; simp (disch := omega) only [upd_at, upd_ne, if_pos, if_neg]; exact shl _ (by omega)
      · intro j hj; rw [stpR_hi (by decide) (by omega)]; simp (disch := omega) only [upd_at, upd_ne, if_pos, if_neg]; exact shl _ (by omega)
    · right
      have hq2 : ¬ Qu_loadAddress (Pa_queues pa) fl = NN ad := fun e => hq (h87.trans e)
      have eS := M_st_load1 v pt a b d (by omega) j2 j3 n2 hb8 a2 j1 (al := 1) (eM.2 hq)
      refine ⟨1, _, _, by omega, by omega, ?_, eS, ?_⟩
      · unfold f_Pa_alarmOfTrailer
        repeat first | (with_reducible refine s_nmj1 ?_) | (with_reducible refine s_nmj2 ?_) | ((with_reducible refine s_nm ?_); intro y_ hy_; (try simp (disch := omega) only [n_lit, n_add, n_mul, n_sub, n_tn, n_ltT, n_ltF, n_leT, n_leF, n_eqT, n_eqF, n_div, n_ixT, n_ixF, n_not, n_md, n_dec, n_and1, n_and3, n_and7, n_and15, n_and31, n_and63, Nat.mod_eq_of_lt, Nat.zero_add, Nat.add_zero, Nat.zero_mul, Nat.sub_zero, not_false_eq_true, not_true_eq_false, upd_at, upd_ne, a1, i1, hq2] at hy_); subst hy_) | ((with_reducible refine s_pos ?_ ?_); · simp (disch := omega) only [n_lit, n_add, n_mul, n_sub, n_tn, n_ltT, n_ltF, n_leT, n_leF, n_eqT, n_eqF, n_div, n_ixT, n_ixF, n_not, n_md, n_dec, n_and1, n_and3, n_and7, n_and15, n_and31, n_and63, Nat.mod_eq_of_lt, Nat.zero_add, Nat.add_zero, Nat.zero_mul, Nat.sub_zero, not_false_eq_true, not_true_eq_false, upd_at, upd_ne, a1, i1, hq2]) | ((with_reducible refine s_neg ?_ ?_); · simp (disch := omega) only [n_lit, n_add, n_mul, n_sub, n_tn, n_ltT, n_ltF, n_leT, n_leF, n_eqT, n_eqF, n_div, n_ixT, n_ixF, n_not, n_md, n_dec, n_and1, n_and3, n_and7, n_and15, n_and31, n_and63, Nat.mod_eq_of_lt, Nat.zero_add, Nat.add_zero, Nat.zero_mul, Nat.sub_zero, not_false_eq_true, not_true_eq_false, upd_at, upd_ne, a1, i1, hq2])  | (with_reducible refine s_bd eF ?_) | (with_reducible refine s_bd eA ?_)
        rfl
      · intro j hj
        rw [stk_out (by omega), upd_ne (by omega), upd_ne (by omega), upd_ne (by omega)]; exact shl _ (by omega)
  · subst q
    have hnc := h78 (by omega)
    have hnc8 : nc < 8 := by omega
    have hd := j4 (by omega)
    obtain ⟨ad, had, hAd⟩ := and31 (St_registers (Pa_trailer pa) b + NN d)
    have e0 : f_M_addressOf ((M_tp v), (M_rd v), (M_lf v), (M_cd v), ((M_s (M_rn v)), (M_spanNow (M_rn v)), (M_sizeNow (M_rn v)), (NN (pt + 1))), (M_ex v), (M_im v), (M_al v), (M_thrown v)) (1 : Int32) (NN pt) = some (NN ad) := (M_addressOf ((M_tp v), (M_rd v), (M_lf v), (M_cd v), ((M_s (M_rn v)), (M_spanNow (M_rn v)), (M_sizeNow (M_rn v)), (NN (pt + 1))), (M_ex v), (M_im v), (M_al v), (M_thrown v)) 1 pt b d (by decide) (by omega) hb8 j3 hd).trans (by rw [← hAd, ← c1 b hb8]; rfl)
    have c1a := c1 a n2
    rw [show 4 + 8 * 1 + a = 12 + a by omega] at c1a
    have eA := C_address (st := Pa_trailer pa) (pr := pr) (pl := pt) (c := 7) (b := b) (d := d) (by omega) (by omega) hb8 a1 i1 i3 i4
    rw [if_neg (by decide), hAd] at eA
    have eW := C_word (st := Pa_trailer pa) (pr := pr) (pl := pt) (a := a) (by omega) n2 a1 i2
    have eH := C_isHeld (q := Pa_queues pa) (x := NN ad) (y := St_registers (Pa_trailer pa) a) hnc8 q4
    have eO := C_stepOn (st := Pa_trailer pa) (pl := pt) (n := nt) (by omega) a1 b1
    obtain ⟨d1, d2, -⟩ := q7 nc hnc
    by_cases hq : M_s (M_rn v) (114 + nc) = NN ad ∧ M_s (M_rn v) (122 + nc) = M_s (M_rn v) (12 + a)
    · left
      have g1 : Qu_heldAddress (Pa_queues pa) nc = NN ad := d1.symm.trans hq.1
      have g2 : Qu_heldWord (Pa_queues pa) nc = St_registers (Pa_trailer pa) a := d2.symm.trans (hq.2.trans c1a)
      rw [if_pos g1, if_pos g2] at eH
      have eM := M_trailerHolds0 ((M_tp v), (M_rd v), (M_lf v), (M_cd v), ((M_s (M_rn v)), (M_spanNow (M_rn v)), (M_sizeNow (M_rn v)), (NN (pt + 1))), (M_ex v), (M_im v), (M_al v), (M_thrown v)) (NN ad) (M_s (M_rn v) (12 + a)) nc hnc8 q5 hq.1 hq.2
      have eS := M_st_store1 v pt a b d (by omega) j2 j3 n2 hb8 a2 j1 (al := 0) e0 eM
      have eB := C_layBeside (q := Pa_queues pa) (x := NN ad) (y := St_registers (Pa_trailer pa) a) hnc8 q4
      refine ⟨?_, (St_registers (Pa_trailer pa), St_floats (Pa_trailer pa), St_stuckMask (Pa_trailer pa), St_stuckOnes (Pa_trailer pa), NN (pt + 1), NN (nt + 1)), (Qu_loadAddress (Pa_queues pa), Qu_loadWord (Pa_queues pa), Qu_branch (Pa_queues pa), Qu_heldAddress (Pa_queues pa), Qu_heldWord (Pa_queues pa), upd (Qu_besideAddress (Pa_queues pa)) nc (NN ad), upd (Qu_besideWord (Pa_queues pa)) nc (St_registers (Pa_trailer pa) a), Qu_firstLoad (Pa_queues pa), Qu_loads (Pa_queues pa), Qu_firstBranch (Pa_queues pa), Qu_branches (Pa_queues pa), Qu_held (Pa_queues pa), NN (nc + 1)), stpR (upd (upd (upd (M_s (M_rn v)) (130 + nc) (NN ad)) (138 + nc) (M_s (M_rn v) (12 + a))) 113 (NN (nc + 1))) 1 (pt + 1) (nt + 1), pt + 1, fl, nld, fb, nbr, nc + 1, ?_, ?_,
        ⟨?_, RSt_go (pl := pt) (s := upd (upd (upd (M_s (M_rn v)) (130 + nc) (NN ad)) (138 + nc) (M_s (M_rn v) (12 + a))) 113 (NN (nc + 1))) (by decide) ?_ hnt (by omega), RLd_congr hLd ?_, RBr_congr hBr ?_, RHe_beside hHe hnc ?_ ?_ ?_ ?_ ?_ ?_, by omega⟩, ?_⟩
      · unfold f_Pa_alarmOfTrailer
        repeat first | (with_reducible refine s_nmj1 ?_) | (with_reducible refine s_nmj2 ?_) | ((with_reducible refine s_nm ?_); intro y_ hy_; (try simp (disch := omega) only [n_lit, n_add, n_mul, n_sub, n_tn, n_ltT, n_ltF, n_leT, n_leF, n_eqT, n_eqF, n_div, n_ixT, n_ixF, n_not, n_md, n_dec, n_and1, n_and3, n_and7, n_and15, n_and31, n_and63, Nat.mod_eq_of_lt, Nat.zero_add, Nat.add_zero, Nat.zero_mul, Nat.sub_zero, not_false_eq_true, not_true_eq_false, upd_at, upd_ne, a1, i1] at hy_); subst hy_) | ((with_reducible refine s_pos ?_ ?_); · simp (disch := omega) only [n_lit, n_add, n_mul, n_sub, n_tn, n_ltT, n_ltF, n_leT, n_leF, n_eqT, n_eqF, n_div, n_ixT, n_ixF, n_not, n_md, n_dec, n_and1, n_and3, n_and7, n_and15, n_and31, n_and63, Nat.mod_eq_of_lt, Nat.zero_add, Nat.add_zero, Nat.zero_mul, Nat.sub_zero, not_false_eq_true, not_true_eq_false, upd_at, upd_ne, a1, i1]) | ((with_reducible refine s_neg ?_ ?_); · simp (disch := omega) only [n_lit, n_add, n_mul, n_sub, n_tn, n_ltT, n_ltF, n_leT, n_leF, n_eqT, n_eqF, n_div, n_ixT, n_ixF, n_not, n_md, n_dec, n_and1, n_and3, n_and7, n_and15, n_and31, n_and63, Nat.mod_eq_of_lt, Nat.zero_add, Nat.add_zero, Nat.zero_mul, Nat.sub_zero, not_false_eq_true, not_true_eq_false, upd_at, upd_ne, a1, i1])  | (with_reducible refine s_bd eA ?_) | (with_reducible refine s_bd eW ?_) | (with_reducible refine s_bd eH ?_)
        rfl
      · unfold f_Pa_stepTrailer
        repeat first | (with_reducible refine s_nmj1 ?_) | (with_reducible refine s_nmj2 ?_) | ((with_reducible refine s_nm ?_); intro y_ hy_; (try simp (disch := omega) only [n_lit, n_add, n_mul, n_sub, n_tn, n_ltT, n_ltF, n_leT, n_leF, n_eqT, n_eqF, n_div, n_ixT, n_ixF, n_not, n_md, n_dec, n_and1, n_and3, n_and7, n_and15, n_and31, n_and63, Nat.mod_eq_of_lt, Nat.zero_add, Nat.add_zero, Nat.zero_mul, Nat.sub_zero, not_false_eq_true, not_true_eq_false, upd_at, upd_ne, a1, i1] at hy_); subst hy_) | ((with_reducible refine s_pos ?_ ?_); · simp (disch := omega) only [n_lit, n_add, n_mul, n_sub, n_tn, n_ltT, n_ltF, n_leT, n_leF, n_eqT, n_eqF, n_div, n_ixT, n_ixF, n_not, n_md, n_dec, n_and1, n_and3, n_and7, n_and15, n_and31, n_and63, Nat.mod_eq_of_lt, Nat.zero_add, Nat.add_zero, Nat.zero_mul, Nat.sub_zero, not_false_eq_true, not_true_eq_false, upd_at, upd_ne, a1, i1]) | ((with_reducible refine s_neg ?_ ?_); · simp (disch := omega) only [n_lit, n_add, n_mul, n_sub, n_tn, n_ltT, n_ltF, n_leT, n_leF, n_eqT, n_eqF, n_div, n_ixT, n_ixF, n_not, n_md, n_dec, n_and1, n_and3, n_and7, n_and15, n_and31, n_and63, Nat.mod_eq_of_lt, Nat.zero_add, Nat.add_zero, Nat.zero_mul, Nat.sub_zero, not_false_eq_true, not_true_eq_false, upd_at, upd_ne, a1, i1])  | (with_reducible refine s_bd eA ?_) | (with_reducible refine s_bd eW ?_) | (with_reducible refine s_bd eB ?_) | (with_reducible refine s_bd eO ?_)
        rfl
      · rw [eS]
        simp only [M_tp_mk, M_rd_mk, M_lf_mk, M_cd_mk, M_rn_mk, M_ex_mk, M_im_mk, M_al_mk, M_thrown_mk, M_s_mk, M_spanNow_mk, M_sizeNow_mk, M_placeThen_mk]
        have : (upd (upd (upd (M_s (M_rn v)) (130 + nc) (NN ad)) (138 + nc) (M_s (M_rn v) (12 + a))) 113 (NN (nc + 1))) 3 = NN nt := by simp (disch := omega) only [upd_at, upd_ne, if_pos, if_neg]; exact b2
        rw [this, n_add]; rfl
      · exact other _ _ _ (fun j hj hj2 => by simp (disch := omega) only [upd_at, upd_ne, if_pos, if_neg])
      · exact RSt_congr (by decide) hT (by simp (disch := omega) only [upd_at, upd_ne, if_pos, if_neg]) (by simp (disch := omega) only [upd_at, upd_ne, if_pos, if_neg]) (fun k hk => by simp (disch := omega) only [upd_at, upd_ne, if_pos, if_neg]) (fun k hk => by simp (disch := omega) only [upd_at, upd_ne, if_pos, if_neg]) (fun j hj hj2 => by simp (disch := omega) only [upd_at, upd_ne, if_pos, if_neg])
      · intro j hj hj2; rw [stpR_hi (by decide) (by omega)]; simp (disch := omega) only [upd_at, upd_ne, if_pos, if_neg]
      · intro j hj hj2; rw [stpR_hi (by decide) (by omega)]; simp (disch := omega) only [upd_at, upd_ne, if_pos, if_neg]
      · rw [stpR_hi (by decide) (by omega)]; simp (disch := omega) only [upd_at, upd_ne, if_pos, if_neg]
      · rw [stpR_hi (by decide) (by omega)]; simp (disch := omega) only [upd_at, upd_ne, if_pos, if_neg]
      · rw [stpR_hi (by decide) (by omega)]; simp (disch := omega) only [upd_at, upd_ne, if_pos, if_neg]
      · rw [stpR_hi (by decide) (by omega)]; simp (disch := omega) only [upd_at, upd_ne, if_pos, if_neg]; exact c1a
      · intro k hk; rw [stpR_hi (by decide) (by omega), stpR_hi (by decide) (by omega)]; constructor <;> simp (disch := omega) only [upd_at, upd_ne, if_pos, if_neg]
      · intro k hk; rw [stpR_hi (by decide) (by omega), stpR_hi (by decide) (by omega)]; constructor <;> simp (disch := omega) only [upd_at, upd_ne, if_pos, if_neg]
      · intro j hj; rw [stpR_hi (by decide) (by omega)]; simp (disch := omega) only [upd_at, upd_ne, if_pos, if_neg]
    · right
      have hz : f_Qu_isHeld (Pa_queues pa) (NN ad) (St_registers (Pa_trailer pa) a) = some (NN 0) := by
        rw [eH]
        by_cases g1 : Qu_heldAddress (Pa_queues pa) nc = NN ad
        · rw [if_pos g1, if_neg (fun g2 => hq ⟨d1.trans g1, d2.trans (Eq.trans g2 c1a.symm)⟩)]
        · rw [if_neg g1]
      have eM := M_trailerHolds3 ((M_tp v), (M_rd v), (M_lf v), (M_cd v), ((M_s (M_rn v)), (M_spanNow (M_rn v)), (M_sizeNow (M_rn v)), (NN (pt + 1))), (M_ex v), (M_im v), (M_al v), (M_thrown v)) (NN ad) (M_s (M_rn v) (12 + a)) nc hnc8 q5 hq
      have eS := M_st_store1 v pt a b d (by omega) j2 j3 n2 hb8 a2 j1 (al := 3) e0 eM
      refine ⟨3, _, _, by omega, by omega, ?_, eS, ?_⟩
      · unfold f_Pa_alarmOfTrailer
        repeat first | (with_reducible refine s_nmj1 ?_) | (with_reducible refine s_nmj2 ?_) | ((with_reducible refine s_nm ?_); intro y_ hy_; (try simp (disch := omega) only [n_lit, n_add, n_mul, n_sub, n_tn, n_ltT, n_ltF, n_leT, n_leF, n_eqT, n_eqF, n_div, n_ixT, n_ixF, n_not, n_md, n_dec, n_and1, n_and3, n_and7, n_and15, n_and31, n_and63, Nat.mod_eq_of_lt, Nat.zero_add, Nat.add_zero, Nat.zero_mul, Nat.sub_zero, not_false_eq_true, not_true_eq_false, upd_at, upd_ne, a1, i1] at hy_); subst hy_) | ((with_reducible refine s_pos ?_ ?_); · simp (disch := omega) only [n_lit, n_add, n_mul, n_sub, n_tn, n_ltT, n_ltF, n_leT, n_leF, n_eqT, n_eqF, n_div, n_ixT, n_ixF, n_not, n_md, n_dec, n_and1, n_and3, n_and7, n_and15, n_and31, n_and63, Nat.mod_eq_of_lt, Nat.zero_add, Nat.add_zero, Nat.zero_mul, Nat.sub_zero, not_false_eq_true, not_true_eq_false, upd_at, upd_ne, a1, i1]) | ((with_reducible refine s_neg ?_ ?_); · simp (disch := omega) only [n_lit, n_add, n_mul, n_sub, n_tn, n_ltT, n_ltF, n_leT, n_leF, n_eqT, n_eqF, n_div, n_ixT, n_ixF, n_not, n_md, n_dec, n_and1, n_and3, n_and7, n_and15, n_and31, n_and63, Nat.mod_eq_of_lt, Nat.zero_add, Nat.add_zero, Nat.zero_mul, Nat.sub_zero, not_false_eq_true, not_true_eq_false, upd_at, upd_ne, a1, i1])  | (with_reducible refine s_bd eA ?_) | (with_reducible refine s_bd eW ?_) | (with_reducible refine s_bd hz ?_)
        rfl
      · intro j hj
        rw [stk_out (by omega), upd_ne (by omega), upd_ne (by omega), upd_ne (by omega), upd_ne (by omega)]; rfl
  · subst q
    have hnc := h78 (by omega)
    have hnc8 : nc < 8 := by omega
    skip
    have c1a := c1 a n2
    rw [show 4 + 8 * 1 + a = 12 + a by omega] at c1a
    have eA := C_address (st := Pa_trailer pa) (pr := pr) (pl := pt) (c := 8) (b := b) (d := d) (by omega) (by omega) hb8 a1 i1 i3 i4
    rw [if_pos rfl] at eA
    have eW := C_word (st := Pa_trailer pa) (pr := pr) (pl := pt) (a := a) (by omega) n2 a1 i2
    have eH := C_isHeld (q := Pa_queues pa) (x := NN 32) (y := St_registers (Pa_trailer pa) a) hnc8 q4
    have eO := C_stepOn (st := Pa_trailer pa) (pl := pt) (n := nt) (by omega) a1 b1
    obtain ⟨d1, d2, -⟩ := q7 nc hnc
    by_cases hq : M_s (M_rn v) (114 + nc) = NN 32 ∧ M_s (M_rn v) (122 + nc) = M_s (M_rn v) (12 + a)
    · left
      have g1 : Qu_heldAddress (Pa_queues pa) nc = NN 32 := d1.symm.trans hq.1
      have g2 : Qu_heldWord (Pa_queues pa) nc = St_registers (Pa_trailer pa) a := d2.symm.trans (hq.2.trans c1a)
      rw [if_pos g1, if_pos g2] at eH
      have eM := M_trailerHolds0 ((M_tp v), (M_rd v), (M_lf v), (M_cd v), ((M_s (M_rn v)), (M_spanNow (M_rn v)), (M_sizeNow (M_rn v)), (NN (pt + 1))), (M_ex v), (M_im v), (M_al v), (M_thrown v)) (NN 32) (M_s (M_rn v) (12 + a)) nc hnc8 q5 hq.1 hq.2
      have eS := M_st_out1 v pt a b d (by omega) j2 j3 n2 hb8 a2 j1 (al := 0)  eM
      have eB := C_layBeside (q := Pa_queues pa) (x := NN 32) (y := St_registers (Pa_trailer pa) a) hnc8 q4
      refine ⟨?_, (St_registers (Pa_trailer pa), St_floats (Pa_trailer pa), St_stuckMask (Pa_trailer pa), St_stuckOnes (Pa_trailer pa), NN (pt + 1), NN (nt + 1)), (Qu_loadAddress (Pa_queues pa), Qu_loadWord (Pa_queues pa), Qu_branch (Pa_queues pa), Qu_heldAddress (Pa_queues pa), Qu_heldWord (Pa_queues pa), upd (Qu_besideAddress (Pa_queues pa)) nc (NN 32), upd (Qu_besideWord (Pa_queues pa)) nc (St_registers (Pa_trailer pa) a), Qu_firstLoad (Pa_queues pa), Qu_loads (Pa_queues pa), Qu_firstBranch (Pa_queues pa), Qu_branches (Pa_queues pa), Qu_held (Pa_queues pa), NN (nc + 1)), stpR (upd (upd (upd (M_s (M_rn v)) (130 + nc) (NN 32)) (138 + nc) (M_s (M_rn v) (12 + a))) 113 (NN (nc + 1))) 1 (pt + 1) (nt + 1), pt + 1, fl, nld, fb, nbr, nc + 1, ?_, ?_,
        ⟨?_, RSt_go (pl := pt) (s := upd (upd (upd (M_s (M_rn v)) (130 + nc) (NN 32)) (138 + nc) (M_s (M_rn v) (12 + a))) 113 (NN (nc + 1))) (by decide) ?_ hnt (by omega), RLd_congr hLd ?_, RBr_congr hBr ?_, RHe_beside hHe hnc ?_ ?_ ?_ ?_ ?_ ?_, by omega⟩, ?_⟩
      · unfold f_Pa_alarmOfTrailer
        repeat first | (with_reducible refine s_nmj1 ?_) | (with_reducible refine s_nmj2 ?_) | ((with_reducible refine s_nm ?_); intro y_ hy_; (try simp (disch := omega) only [n_lit, n_add, n_mul, n_sub, n_tn, n_ltT, n_ltF, n_leT, n_leF, n_eqT, n_eqF, n_div, n_ixT, n_ixF, n_not, n_md, n_dec, n_and1, n_and3, n_and7, n_and15, n_and31, n_and63, Nat.mod_eq_of_lt, Nat.zero_add, Nat.add_zero, Nat.zero_mul, Nat.sub_zero, not_false_eq_true, not_true_eq_false, upd_at, upd_ne, a1, i1] at hy_); subst hy_) | ((with_reducible refine s_pos ?_ ?_); · simp (disch := omega) only [n_lit, n_add, n_mul, n_sub, n_tn, n_ltT, n_ltF, n_leT, n_leF, n_eqT, n_eqF, n_div, n_ixT, n_ixF, n_not, n_md, n_dec, n_and1, n_and3, n_and7, n_and15, n_and31, n_and63, Nat.mod_eq_of_lt, Nat.zero_add, Nat.add_zero, Nat.zero_mul, Nat.sub_zero, not_false_eq_true, not_true_eq_false, upd_at, upd_ne, a1, i1]) | ((with_reducible refine s_neg ?_ ?_); · simp (disch := omega) only [n_lit, n_add, n_mul, n_sub, n_tn, n_ltT, n_ltF, n_leT, n_leF, n_eqT, n_eqF, n_div, n_ixT, n_ixF, n_not, n_md, n_dec, n_and1, n_and3, n_and7, n_and15, n_and31, n_and63, Nat.mod_eq_of_lt, Nat.zero_add, Nat.add_zero, Nat.zero_mul, Nat.sub_zero, not_false_eq_true, not_true_eq_false, upd_at, upd_ne, a1, i1])  | (with_reducible refine s_bd eA ?_) | (with_reducible refine s_bd eW ?_) | (with_reducible refine s_bd eH ?_)
        rfl
      · unfold f_Pa_stepTrailer
        repeat first | (with_reducible refine s_nmj1 ?_) | (with_reducible refine s_nmj2 ?_) | ((with_reducible refine s_nm ?_); intro y_ hy_; (try simp (disch := omega) only [n_lit, n_add, n_mul, n_sub, n_tn, n_ltT, n_ltF, n_leT, n_leF, n_eqT, n_eqF, n_div, n_ixT, n_ixF, n_not, n_md, n_dec, n_and1, n_and3, n_and7, n_and15, n_and31, n_and63, Nat.mod_eq_of_lt, Nat.zero_add, Nat.add_zero, Nat.zero_mul, Nat.sub_zero, not_false_eq_true, not_true_eq_false, upd_at, upd_ne, a1, i1] at hy_); subst hy_) | ((with_reducible refine s_pos ?_ ?_); · simp (disch := omega) only [n_lit, n_add, n_mul, n_sub, n_tn, n_ltT, n_ltF, n_leT, n_leF, n_eqT, n_eqF, n_div, n_ixT, n_ixF, n_not, n_md, n_dec, n_and1, n_and3, n_and7, n_and15, n_and31, n_and63, Nat.mod_eq_of_lt, Nat.zero_add, Nat.add_zero, Nat.zero_mul, Nat.sub_zero, not_false_eq_true, not_true_eq_false, upd_at, upd_ne, a1, i1]) | ((with_reducible refine s_neg ?_ ?_); · simp (disch := omega) only [n_lit, n_add, n_mul, n_sub, n_tn, n_ltT, n_ltF, n_leT, n_leF, n_eqT, n_eqF, n_div, n_ixT, n_ixF, n_not, n_md, n_dec, n_and1, n_and3, n_and7, n_and15, n_and31, n_and63, Nat.mod_eq_of_lt, Nat.zero_add, Nat.add_zero, Nat.zero_mul, Nat.sub_zero, not_false_eq_true, not_true_eq_false, upd_at, upd_ne, a1, i1])  | (with_reducible refine s_bd eA ?_) | (with_reducible refine s_bd eW ?_) | (with_reducible refine s_bd eB ?_) | (with_reducible refine s_bd eO ?_)
        rfl
      · rw [eS]
        simp only [M_tp_mk, M_rd_mk, M_lf_mk, M_cd_mk, M_rn_mk, M_ex_mk, M_im_mk, M_al_mk, M_thrown_mk, M_s_mk, M_spanNow_mk, M_sizeNow_mk, M_placeThen_mk]
        have : (upd (upd (upd (M_s (M_rn v)) (130 + nc) (NN 32)) (138 + nc) (M_s (M_rn v) (12 + a))) 113 (NN (nc + 1))) 3 = NN nt := by simp (disch := omega) only [upd_at, upd_ne, if_pos, if_neg]; exact b2
        rw [this, n_add]; rfl
      · exact other _ _ _ (fun j hj hj2 => by simp (disch := omega) only [upd_at, upd_ne, if_pos, if_neg])
      · exact RSt_congr (by decide) hT (by simp (disch := omega) only [upd_at, upd_ne, if_pos, if_neg]) (by simp (disch := omega) only [upd_at, upd_ne, if_pos, if_neg]) (fun k hk => by simp (disch := omega) only [upd_at, upd_ne, if_pos, if_neg]) (fun k hk => by simp (disch := omega) only [upd_at, upd_ne, if_pos, if_neg]) (fun j hj hj2 => by simp (disch := omega) only [upd_at, upd_ne, if_pos, if_neg])
      · intro j hj hj2; rw [stpR_hi (by decide) (by omega)]; simp (disch := omega) only [upd_at, upd_ne, if_pos, if_neg]
      · intro j hj hj2; rw [stpR_hi (by decide) (by omega)]; simp (disch := omega) only [upd_at, upd_ne, if_pos, if_neg]
      · rw [stpR_hi (by decide) (by omega)]; simp (disch := omega) only [upd_at, upd_ne, if_pos, if_neg]
      · rw [stpR_hi (by decide) (by omega)]; simp (disch := omega) only [upd_at, upd_ne, if_pos, if_neg]
      · rw [stpR_hi (by decide) (by omega)]; simp (disch := omega) only [upd_at, upd_ne, if_pos, if_neg]
      · rw [stpR_hi (by decide) (by omega)]; simp (disch := omega) only [upd_at, upd_ne, if_pos, if_neg]; exact c1a
      · intro k hk; rw [stpR_hi (by decide) (by omega), stpR_hi (by decide) (by omega)]; constructor <;> simp (disch := omega) only [upd_at, upd_ne, if_pos, if_neg]
      · intro k hk; rw [stpR_hi (by decide) (by omega), stpR_hi (by decide) (by omega)]; constructor <;> simp (disch := omega) only [upd_at, upd_ne, if_pos, if_neg]
      · intro j hj; rw [stpR_hi (by decide) (by omega)]; simp (disch := omega) only [upd_at, upd_ne, if_pos, if_neg]
    · right
      have hz : f_Qu_isHeld (Pa_queues pa) (NN 32) (St_registers (Pa_trailer pa) a) = some (NN 0) := by
        rw [eH]
        by_cases g1 : Qu_heldAddress (Pa_queues pa) nc = NN 32
        · rw [if_pos g1, if_neg (fun g2 => hq ⟨d1.trans g1, d2.trans (Eq.trans g2 c1a.symm)⟩)]
        · rw [if_neg g1]
      have eM := M_trailerHolds3 ((M_tp v), (M_rd v), (M_lf v), (M_cd v), ((M_s (M_rn v)), (M_spanNow (M_rn v)), (M_sizeNow (M_rn v)), (NN (pt + 1))), (M_ex v), (M_im v), (M_al v), (M_thrown v)) (NN 32) (M_s (M_rn v) (12 + a)) nc hnc8 q5 hq
      have eS := M_st_out1 v pt a b d (by omega) j2 j3 n2 hb8 a2 j1 (al := 3)  eM
      refine ⟨3, _, _, by omega, by omega, ?_, eS, ?_⟩
      · unfold f_Pa_alarmOfTrailer
        repeat first | (with_reducible refine s_nmj1 ?_) | (with_reducible refine s_nmj2 ?_) | ((with_reducible refine s_nm ?_); intro y_ hy_; (try simp (disch := omega) only [n_lit, n_add, n_mul, n_sub, n_tn, n_ltT, n_ltF, n_leT, n_leF, n_eqT, n_eqF, n_div, n_ixT, n_ixF, n_not, n_md, n_dec, n_and1, n_and3, n_and7, n_and15, n_and31, n_and63, Nat.mod_eq_of_lt, Nat.zero_add, Nat.add_zero, Nat.zero_mul, Nat.sub_zero, not_false_eq_true, not_true_eq_false, upd_at, upd_ne, a1, i1] at hy_); subst hy_) | ((with_reducible refine s_pos ?_ ?_); · simp (disch := omega) only [n_lit, n_add, n_mul, n_sub, n_tn, n_ltT, n_ltF, n_leT, n_leF, n_eqT, n_eqF, n_div, n_ixT, n_ixF, n_not, n_md, n_dec, n_and1, n_and3, n_and7, n_and15, n_and31, n_and63, Nat.mod_eq_of_lt, Nat.zero_add, Nat.add_zero, Nat.zero_mul, Nat.sub_zero, not_false_eq_true, not_true_eq_false, upd_at, upd_ne, a1, i1]) | ((with_reducible refine s_neg ?_ ?_); · simp (disch := omega) only [n_lit, n_add, n_mul, n_sub, n_tn, n_ltT, n_ltF, n_leT, n_leF, n_eqT, n_eqF, n_div, n_ixT, n_ixF, n_not, n_md, n_dec, n_and1, n_and3, n_and7, n_and15, n_and31, n_and63, Nat.mod_eq_of_lt, Nat.zero_add, Nat.add_zero, Nat.zero_mul, Nat.sub_zero, not_false_eq_true, not_true_eq_false, upd_at, upd_ne, a1, i1])  | (with_reducible refine s_bd eA ?_) | (with_reducible refine s_bd eW ?_) | (with_reducible refine s_bd hz ?_)
        rfl
      · intro j hj
        rw [stk_out (by omega), upd_ne (by omega), upd_ne (by omega), upd_ne (by omega), upd_ne (by omega)]; rfl
  · have hnbr := h15 q
    have hd := j5 (by omega)
    obtain ⟨g, hg, eC, eMg⟩ := C_goes (st := Pa_trailer pa) (pr := pr) (pl := pt) (c := c) (a := a) (b := b) (by omega) (by omega) n2 hb8 n11 a1 i1 i2 i3
    have hfb : (fb + 0) % 8 = fb := by omega
    obtain ⟨u1, h, hh, u2⟩ := r6 0 (by omega)
    rw [hfb] at u1
    have u3 : Qu_branch (Pa_queues pa) fb = NN h := u1.symm.trans u2
    have eB := C_firstBranch r2 hh r1 u3
    have eM := M_branches1 ((M_tp v), (M_rd v), (M_lf v), (M_cd v), ((M_s (M_rn v)), (M_spanNow (M_rn v)), (M_sizeNow (M_rn v)), (NN (pt + 1))), (M_ex v), (M_im v), (M_al v), (M_thrown v)) pt d nbr g h (by omega) hd r4 ⟨hnbr, r5⟩ hg hh u2
    have gB : f_M_goesBy (NN (c + 6)) (M_s (M_rn v) (12 + a)) (M_s (M_rn v) (12 + b)) (M_s (M_rn v) (24 + a % 4)) (M_s (M_rn v) (24 + b % 4)) = some (NN g) := by
      have x1 := c1 a n2
      have x2 := c1 b hb8
      have x3 := c2 (a % 4) (by omega)
      have x4 := c2 (b % 4) (by omega)
      rw [show 4 + 8 * 1 + a = 12 + a by omega] at x1
      rw [show 4 + 8 * 1 + b = 12 + b by omega] at x2
      rw [show 20 + 4 * 1 + a % 4 = 24 + a % 4 by omega] at x3
      rw [show 20 + 4 * 1 + b % 4 = 24 + b % 4 by omega] at x4
      rw [x1, x2, x3, x4]; exact eMg
    obtain ⟨pt', hpt', eTo, ePt⟩ : ∃ pt', pt' < 64 ∧ f_St_stepTo (Pa_trailer pa) pr (NN g) = some (St_registers (Pa_trailer pa), St_floats (Pa_trailer pa), St_stuckMask (Pa_trailer pa), St_stuckOnes (Pa_trailer pa), NN pt', NN (nt + 1)) ∧ (if g = 0 then M_placeThen (M_rn ((M_tp v), (M_rd v), (M_lf v), (M_cd v), ((M_s (M_rn v)), (M_spanNow (M_rn v)), (M_sizeNow (M_rn v)), (NN (pt + 1))), (M_ex v), (M_im v), (M_al v), (M_thrown v))) else NN d) = NN pt' := by
      rcases (by omega : g = 0 ∨ g = 1) with rfl | rfl
      · exact ⟨pt + 1, by omega, C_stepTo0 (by omega) a1 b1, rfl⟩
      · exact ⟨d, by omega, C_stepTo1 (by omega) n4 a1 b1 i4, rfl⟩
    rw [ePt] at eM
    have eS := M_st_branch1 v pt a b d (by omega) j2 j3 (c := c + 6) (g := g) (al := if h = g then 0 else 2) n2 hb8 a2 j1 (by omega) gB eM
    by_cases hq : h = g
    · left
      subst hq
      rw [if_pos rfl] at eS
      have eR := C_removeBranch (q := Pa_queues pa) r2 ⟨hnbr, r5⟩ r1 r3
      refine ⟨?_, (St_registers (Pa_trailer pa), St_floats (Pa_trailer pa), St_stuckMask (Pa_trailer pa), St_stuckOnes (Pa_trailer pa), NN pt', NN (nt + 1)), (Qu_loadAddress (Pa_queues pa), Qu_loadWord (Pa_queues pa), Qu_branch (Pa_queues pa), Qu_heldAddress (Pa_queues pa), Qu_heldWord (Pa_queues pa), Qu_besideAddress (Pa_queues pa), Qu_besideWord (Pa_queues pa), Qu_firstLoad (Pa_queues pa), Qu_loads (Pa_queues pa), NN ((fb + 1) % 8), NN (nbr - 1), Qu_held (Pa_queues pa), Qu_comparedHeld (Pa_queues pa)), stpR (upd (sh1 104 111 (M_s (M_rn v))) 103 (NN (nbr - 1))) 1 pt' (nt + 1), pt', fl, nld, (fb + 1) % 8, nbr - 1, nc, ?_, ?_,
        ⟨?_, RSt_go (pl := pt) (s := upd (sh1 104 111 (M_s (M_rn v))) 103 (NN (nbr - 1))) (by decide) ?_ hnt hpt', RLd_congr hLd ?_, RBr_remove hBr hnbr ?_ ?_, RHe_congr hHe ?_, by omega⟩, ?_⟩
      · unfold f_Pa_alarmOfTrailer
        repeat first | (with_reducible refine s_nmj1 ?_) | (with_reducible refine s_nmj2 ?_) | ((with_reducible refine s_nm ?_); intro y_ hy_; (try simp (disch := omega) only [n_lit, n_add, n_mul, n_sub, n_tn, n_ltT, n_ltF, n_leT, n_leF, n_eqT, n_eqF, n_div, n_ixT, n_ixF, n_not, n_md, n_dec, n_and1, n_and3, n_and7, n_and15, n_and31, n_and63, Nat.mod_eq_of_lt, Nat.zero_add, Nat.add_zero, Nat.zero_mul, Nat.sub_zero, not_false_eq_true, not_true_eq_false, upd_at, upd_ne, a1, i1] at hy_); subst hy_) | ((with_reducible refine s_pos ?_ ?_); · simp (disch := omega) only [n_lit, n_add, n_mul, n_sub, n_tn, n_ltT, n_ltF, n_leT, n_leF, n_eqT, n_eqF, n_div, n_ixT, n_ixF, n_not, n_md, n_dec, n_and1, n_and3, n_and7, n_and15, n_and31, n_and63, Nat.mod_eq_of_lt, Nat.zero_add, Nat.add_zero, Nat.zero_mul, Nat.sub_zero, not_false_eq_true, not_true_eq_false, upd_at, upd_ne, a1, i1]) | ((with_reducible refine s_neg ?_ ?_); · simp (disch := omega) only [n_lit, n_add, n_mul, n_sub, n_tn, n_ltT, n_ltF, n_leT, n_leF, n_eqT, n_eqF, n_div, n_ixT, n_ixF, n_not, n_md, n_dec, n_and1, n_and3, n_and7, n_and15, n_and31, n_and63, Nat.mod_eq_of_lt, Nat.zero_add, Nat.add_zero, Nat.zero_mul, Nat.sub_zero, not_false_eq_true, not_true_eq_false, upd_at, upd_ne, a1, i1])  | (with_reducible refine s_bd eB ?_) | (with_reducible refine s_bd eC ?_)
        rfl
      · unfold f_Pa_stepTrailer
        repeat first | (with_reducible refine s_nmj1 ?_) | (with_reducible refine s_nmj2 ?_) | ((with_reducible refine s_nm ?_); intro y_ hy_; (try simp (disch := omega) only [n_lit, n_add, n_mul, n_sub, n_tn, n_ltT, n_ltF, n_leT, n_leF, n_eqT, n_eqF, n_div, n_ixT, n_ixF, n_not, n_md, n_dec, n_and1, n_and3, n_and7, n_and15, n_and31, n_and63, Nat.mod_eq_of_lt, Nat.zero_add, Nat.add_zero, Nat.zero_mul, Nat.sub_zero, not_false_eq_true, not_true_eq_false, upd_at, upd_ne, a1, i1] at hy_); subst hy_) | ((with_reducible refine s_pos ?_ ?_); · simp (disch := omega) only [n_lit, n_add, n_mul, n_sub, n_tn, n_ltT, n_ltF, n_leT, n_leF, n_eqT, n_eqF, n_div, n_ixT, n_ixF, n_not, n_md, n_dec, n_and1, n_and3, n_and7, n_and15, n_and31, n_and63, Nat.mod_eq_of_lt, Nat.zero_add, Nat.add_zero, Nat.zero_mul, Nat.sub_zero, not_false_eq_true, not_true_eq_false, upd_at, upd_ne, a1, i1]) | ((with_reducible refine s_neg ?_ ?_); · simp (disch := omega) only [n_lit, n_add, n_mul, n_sub, n_tn, n_ltT, n_ltF, n_leT, n_leF, n_eqT, n_eqF, n_div, n_ixT, n_ixF, n_not, n_md, n_dec, n_and1, n_and3, n_and7, n_and15, n_and31, n_and63, Nat.mod_eq_of_lt, Nat.zero_add, Nat.add_zero, Nat.zero_mul, Nat.sub_zero, not_false_eq_true, not_true_eq_false, upd_at, upd_ne, a1, i1])  | (with_reducible refine s_bd eB ?_) | (with_reducible refine s_bd eR ?_) | (with_reducible refine s_bd eTo ?_)
        rfl
      · rw [eS]
        simp only [M_tp_mk, M_rd_mk, M_lf_mk, M_cd_mk, M_rn_mk, M_ex_mk, M_im_mk, M_al_mk, M_thrown_mk, M_s_mk, M_spanNow_mk, M_sizeNow_mk, M_placeThen_mk]
        have : (upd (sh1 104 111 (M_s (M_rn v))) 103 (NN (nbr - 1))) 3 = NN nt := by simp (disch := omega) only [upd_at, upd_ne, if_pos, if_neg]; rw [shb _ (by omega)]; exact b2
        rw [this, n_add]; rfl
      · exact other _ _ _ (fun j hj hj2 => by simp (disch := omega) only [upd_at, upd_ne, if_pos, if_neg]; exact shb _ (by omega))
      · exact RSt_congr (by decide) hT (by simp (disch := omega) only [upd_at, upd_ne, if_pos, if_neg]; exact shb _ (by omega)) (by simp (disch := omega) only [upd_at, upd_ne, if_pos, if_neg]; exact shb _ (by omega)) (fun k hk => by simp (disch := omega) only [upd_at, upd_ne, if_pos, if_neg]; exact shb _ (by omega)) (fun k hk => by simp (disch := omega) only [upd_at, upd_ne, if_pos, if_neg]; exact shb _ (by omega)) (fun j hj hj2 => by simp (disch := omega) only [upd_at, upd_ne, if_pos, if_neg]; exact shb _ (by omega))
      · intro j hj hj2; rw [stpR_hi (by decide) (by omega)]; simp (disch := omega) only [upd_at, upd_ne, if_pos, if_neg]; exact shb _ (by omega)
      · rw [stpR_hi (by decide) (by omega)]; simp (disch := omega) only [upd_at, upd_ne, if_pos, if_neg]
      · intro k hk
        rw [stpR_hi (by decide) (by omega)]; simp (disch := omega) only [upd_at, upd_ne, if_pos, if_neg]; simp only [sh1]; simp (disch := omega) only [upd_at, upd_ne, if_pos, if_neg]; rfl
      · intro j hj hj2; rw [stpR_hi (by decide) (by omega)]; simp (disch := omega) only [upd_at, upd_ne, if_pos, if_neg]; exact shb _ (by omega)
      · intro j hj; rw [stpR_hi (by decide) (by omega)]; simp (disch := omega) only [upd_at, upd_ne, if_pos, if_neg]; exact shb _ (by omega)
    · right
      rw [if_neg hq] at eS
      refine ⟨2, _, _, by omega, by omega, ?_, eS, ?_⟩
      · unfold f_Pa_alarmOfTrailer
        repeat first | (with_reducible refine s_nmj1 ?_) | (with_reducible refine s_nmj2 ?_) | ((with_reducible refine s_nm ?_); intro y_ hy_; (try simp (disch := omega) only [n_lit, n_add, n_mul, n_sub, n_tn, n_ltT, n_ltF, n_leT, n_leF, n_eqT, n_eqF, n_div, n_ixT, n_ixF, n_not, n_md, n_dec, n_and1, n_and3, n_and7, n_and15, n_and31, n_and63, Nat.mod_eq_of_lt, Nat.zero_add, Nat.add_zero, Nat.zero_mul, Nat.sub_zero, not_false_eq_true, not_true_eq_false, upd_at, upd_ne, a1, i1] at hy_); subst hy_) | ((with_reducible refine s_pos ?_ ?_); · simp (disch := omega) only [n_lit, n_add, n_mul, n_sub, n_tn, n_ltT, n_ltF, n_leT, n_leF, n_eqT, n_eqF, n_div, n_ixT, n_ixF, n_not, n_md, n_dec, n_and1, n_and3, n_and7, n_and15, n_and31, n_and63, Nat.mod_eq_of_lt, Nat.zero_add, Nat.add_zero, Nat.zero_mul, Nat.sub_zero, not_false_eq_true, not_true_eq_false, upd_at, upd_ne, a1, i1]) | ((with_reducible refine s_neg ?_ ?_); · simp (disch := omega) only [n_lit, n_add, n_mul, n_sub, n_tn, n_ltT, n_ltF, n_leT, n_leF, n_eqT, n_eqF, n_div, n_ixT, n_ixF, n_not, n_md, n_dec, n_and1, n_and3, n_and7, n_and15, n_and31, n_and63, Nat.mod_eq_of_lt, Nat.zero_add, Nat.add_zero, Nat.zero_mul, Nat.sub_zero, not_false_eq_true, not_true_eq_false, upd_at, upd_ne, a1, i1])  | (with_reducible refine s_bd eB ?_) | (with_reducible refine s_bd eC ?_)
        rfl
      · intro j hj
        rw [stk_out (by omega), upd_ne (by omega), upd_ne (by omega), upd_ne (by omega)]; exact shb _ (by omega)
