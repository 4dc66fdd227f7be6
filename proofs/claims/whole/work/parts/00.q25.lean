/-! a STEP of the LEADER -/
def RTQ (sl st : T_St) (q : T_Qu) (s : Nat → Int32) (pl nl pt nt fl nld fb nbr nh nc : Nat) : Prop :=
  RSt 0 sl s pl nl ∧ RSt 1 st s pt nt ∧ RLd q s fl nld ∧ RBr q s fb nbr ∧ RHe q s nh nc ∧ nt ≤ nl
theorem RLd_congr {q : T_Qu} {s r : Nat → Int32} {f n : Nat} (h : RLd q s f n) (e : ∀ j, 86 ≤ j → j < 103 → r j = s j) : RLd q r f n := by
  obtain ⟨a, ⟨b1, b2, b3⟩, c⟩ := h
  exact ⟨a, ⟨b1, (e _ (by omega) (by omega)).trans b2, b3⟩, fun k hk => by rw [e (87 + k) (by omega) (by omega), e (95 + k) (by omega) (by omega)]; exact c k hk⟩
theorem RBr_congr {q : T_Qu} {s r : Nat → Int32} {f n : Nat} (h : RBr q s f n) (e : ∀ j, 103 ≤ j → j < 112 → r j = s j) : RBr q r f n := by
  obtain ⟨a, ⟨b1, b2, b3⟩, c⟩ := h
  exact ⟨a, ⟨b1, (e _ (by omega) (by omega)).trans b2, b3⟩, fun k hk => by rw [e (104 + k) (by omega) (by omega)]; exact c k hk⟩
theorem RHe_congr {q : T_Qu} {s r : Nat → Int32} {n c : Nat} (h : RHe q s n c) (e : ∀ j, 112 ≤ j → j < 146 → r j = s j) : RHe q r n c := by
  obtain ⟨⟨a1, a2, a3⟩, ⟨b1, b2, b3⟩, d, g⟩ := h
  exact ⟨⟨a1, (e _ (by omega) (by omega)).trans a2, a3⟩, ⟨b1, (e _ (by omega) (by omega)).trans b2, b3⟩, fun k hk => by rw [e (114 + k) (by omega) (by omega), e (122 + k) (by omega) (by omega)]; exact d k hk,
    fun k hk => by rw [e (130 + k) (by omega) (by omega), e (138 + k) (by omega) (by omega)]; exact g k hk⟩
theorem C_stepIn {pa : T_Pa} {pr : T_Pg} {pl c : Nat} {st' : T_St} (hp : pl < 40) (hc : c ≠ 0 ∧ c ≠ 6 ∧ c ≠ 7 ∧ c ≠ 8 ∧ c < 15) (a1 : St_place (Pa_leader pa) = NN pl) (i1 : Pg_code pr pl = NN c) (h : f_St_stepWithin (Pa_leader pa) pr = some st') :
    f_Pa_stepLeader pa pr = some (Pa_rules pa, st', Pa_trailer pa, Pa_point pa, Pa_queues pa, Pa_outside pa, ((Ta_alarmSort (Pa_tally pa)), (Ta_alarmTurn (Pa_tally pa)), (Ta_alarmLeaderSteps (Pa_tally pa)), (Ta_alarmTrailerSteps (Pa_tally pa)), (Ta_turns (Pa_tally pa)), (Ta_points (Pa_tally pa)), (Ta_alarms (Pa_tally pa)), (Ta_alarmsSincePoint (Pa_tally pa)), (Ta_greatestAhead (Pa_tally pa)), (Ta_aheadSum (Pa_tally pa)), (Ta_leaderTurns (Pa_tally pa)) + NN 1, (Ta_trailerTurns (Pa_tally pa)), (Ta_comparedSteps (Pa_tally pa))), Pa_done pa, Pa_down pa) := by
  unfold f_Pa_stepLeader
  repeat first | (with_reducible refine s_nmj1 ?_) | (with_reducible refine s_nmj2 ?_) | ((with_reducible refine s_nm ?_); intro y_ hy_; (try simp (disch := omega) only [n_lit, n_add, n_mul, n_sub, n_tn, n_ltT, n_ltF, n_leT, n_leF, n_eqT, n_eqF, n_div, n_ixT, n_ixF, n_not, n_md, n_dec, n_and1, n_and3, n_and7, n_and15, n_and31, n_and63, Nat.mod_eq_of_lt, Nat.zero_add, Nat.add_zero, Nat.zero_mul, Nat.sub_zero, not_false_eq_true, not_true_eq_false, upd_at, upd_ne, a1, i1] at hy_); subst hy_) | ((with_reducible refine s_pos ?_ ?_); · simp (disch := omega) only [n_lit, n_add, n_mul, n_sub, n_tn, n_ltT, n_ltF, n_leT, n_leF, n_eqT, n_eqF, n_div, n_ixT, n_ixF, n_not, n_md, n_dec, n_and1, n_and3, n_and7, n_and15, n_and31, n_and63, Nat.mod_eq_of_lt, Nat.zero_add, Nat.add_zero, Nat.zero_mul, Nat.sub_zero, not_false_eq_true, not_true_eq_false, upd_at, upd_ne, a1, i1]) | ((with_reducible refine s_neg ?_ ?_); · simp (disch := omega) only [n_lit, n_add, n_mul, n_sub, n_tn, n_ltT, n_ltF, n_leT, n_leF, n_eqT, n_eqF, n_div, n_ixT, n_ixF, n_not, n_md, n_dec, n_and1, n_and3, n_and7, n_and15, n_and31, n_and63, Nat.mod_eq_of_lt, Nat.zero_add, Nat.add_zero, Nat.zero_mul, Nat.sub_zero, not_false_eq_true, not_true_eq_false, upd_at, upd_ne, a1, i1])  | (with_reducible refine s_bd h ?_)
  rfl
set_option maxHeartbeats 4000000 in
theorem sim_leader {pa : T_Pa} {pr : T_Pg} {v : T_M} {n pl nl pt nt fl nld fb nbr nh nc c a b d : Nat} (hn : n ≤ 40) (hpn : pl < n) (h : RTQ (Pa_leader pa) (Pa_trailer pa) (Pa_queues pa) (M_s (M_rn v)) pl nl pt nt fl nld fb nbr nh nc) (hM : ∀ a, a < 32 → M_s (M_rn v) (146 + a) = Ou_memory (Pa_outside pa) a)
    (hI : IS pr v pl c a b d) (h0 : c ≠ 0) (hnl : nl < 40) (h6 : c = 6 → nld < 8) (h15 : 15 ≤ c → nbr < 8) (h78 : c = 7 ∨ c = 8 → nh < 8) :
    ∃ st' q' row' pl' nld' nbr' nh', f_Pa_stepLeader pa pr = some (Pa_rules pa, st', Pa_trailer pa, Pa_point pa, q', Pa_outside pa, ((Ta_alarmSort (Pa_tally pa)), (Ta_alarmTurn (Pa_tally pa)), (Ta_alarmLeaderSteps (Pa_tally pa)), (Ta_alarmTrailerSteps (Pa_tally pa)), (Ta_turns (Pa_tally pa)), (Ta_points (Pa_tally pa)), (Ta_alarms (Pa_tally pa)), (Ta_alarmsSincePoint (Pa_tally pa)), (Ta_greatestAhead (Pa_tally pa)), (Ta_aheadSum (Pa_tally pa)), (Ta_leaderTurns (Pa_tally pa)) + NN 1, (Ta_trailerTurns (Pa_tally pa)), (Ta_comparedSteps (Pa_tally pa))), Pa_done pa, Pa_down pa) ∧ f_M_stepped v (NN 0) = some (NN 0, mP v row' (NN pl')) ∧
      RTQ st' (Pa_trailer pa) q' row' pl' (nl + 1) pt nt fl nld' fb nbr' nh' nc ∧ ∀ j, 28 ≤ j ∧ j < 86 ∨ 146 ≤ j → row' j = M_s (M_rn v) j := by
  obtain ⟨hL, hT, hLd, hBr, hHe, hle⟩ := h
  by_cases hpure : c ≠ 6 ∧ c ≠ 7 ∧ c ≠ 8 ∧ c < 15
  · obtain ⟨st', row, pl', e1, e2, e3, e4⟩ := sim_pure (w := 0) (by decide) (by omega) hL hnl hI ⟨h0, hpure⟩
    have hi : ∀ j, 28 ≤ j → stpR row 0 pl' (nl + 1) j = M_s (M_rn v) j := fun j hj => (stpR_hi (by decide) (by omega)).trans (e4 j (by omega) (by omega))
    refine ⟨st', Pa_queues pa, _, pl', nld, nbr, nh, C_stepIn (pl := pl) (by omega) ⟨h0, hpure⟩ hL.1.1 hI.2.1 e1, e2, ⟨e3, ?_, RLd_congr hLd (fun j hj _ => hi j (by omega)), RBr_congr hBr (fun j hj _ => hi j (by omega)), RHe_congr hHe (fun j hj _ => hi j (by omega)), by omega⟩, fun j hj => hi j (by omega)⟩
    exact RSt_other (by decide) (by decide) (by decide) hT (e4 _ (by omega) (by omega)) (e4 _ (by omega) (by omega)) (fun k hk => e4 _ (by omega) (by omega)) (fun k hk => e4 _ (by omega) (by omega)) (fun j hj hj2 => e4 _ (by omega) (by omega))
  obtain ⟨hIN, i1, i2, i3, i4, j1, j2, j3, j4, j5⟩ := hI
  obtain ⟨n1, n2, n3, n4, n5, n6, n7, n8, n9, n10, n11⟩ := hIN
  rw [if_neg h0] at j1
  have hb8 := n5 (by omega)
  obtain ⟨⟨a1, a2, a3⟩, ⟨b1, b2, b3⟩, c1, c2, c3, c4, c5⟩ := id hL
  obtain ⟨⟨l1, l2⟩, ⟨l3, l4, l5⟩, l6⟩ := id hLd
  obtain ⟨⟨r1, r2⟩, ⟨r3, r4, r5⟩, r6⟩ := id hBr
  obtain ⟨⟨q1, q2, q3⟩, ⟨q4, q5, q6⟩, q7, q8⟩ := id hHe
  have other : ∀ (row : Nat → Int32) (p' n' : Nat), (∀ j, (j < 28 → ¬ (4 ≤ j ∧ j < 12)) → (j < 86) → row j = M_s (M_rn v) j) → RSt 1 (Pa_trailer pa) (stpR row 0 p' n') pt nt := fun row p' n' hr =>
    RSt_other (by decide) (by decide) (by decide) hT (hr _ (by omega) (by omega)) (hr _ (by omega) (by omega)) (fun k hk => hr _ (by omega) (by omega)) (fun k hk => hr _ (by omega) (by omega)) (fun j hj hj2 => hr _ (by omega) (by omega))
  rcases (by omega : c = 6 ∨ c = 7 ∨ c = 8 ∨ 15 ≤ c) with q | q | q | q
  · subst q
    have hnld := h6 rfl
    have hd := j4 (by omega)
    obtain ⟨ad, had, hAd⟩ := and31 (St_registers (Pa_leader pa) b + NN d)
    have hAd2 : (M_s (M_rn v) (4 + b) + NN d) &&& NN 31 = NN ad := by
      have := c1 b hb8
      rw [show 4 + 8 * 0 + b = 4 + b by omega] at this
      rw [this]; exact hAd
    obtain ⟨wd, hwd⟩ : ∃ wd, lastW (fun k => M_s (M_rn v) (114 + k)) (fun k => M_s (M_rn v) (122 + k)) (NN ad) (M_s (M_rn v) (146 + ad)) nh = wd := ⟨_, rfl⟩
    have hlast : lastAt (fun k => M_s (M_rn v) (114 + k)) (NN ad) nh = lastAt (Qu_heldAddress (Pa_queues pa)) (NN ad) nh := lastAt_congr (fun k hk => (q7 k hk).1)
    have eM := M_leaderLoads ((M_tp v), (M_rd v), (M_lf v), (M_cd v), ((M_s (M_rn v)), (M_spanNow (M_rn v)), (M_sizeNow (M_rn v)), (NN (pl + 1))), (M_ex v), (M_im v), (M_al v), (M_thrown v)) pl a b d nld nh ad (by omega) n2 hb8 j2 j3 hd l4 hnld q2 q3 had hAd2 hwd
    have eS := M_st_load0 v pl a b d (by omega) j2 j3 n2 hb8 a2 j1 (al := 0) (row := (upd (upd (upd (upd (M_s (M_rn v)) (87 + nld) (NN ad)) (95 + nld) wd) 86 (NN (nld + 1))) (4 + a) wd)) eM
    have eA := C_address (st := Pa_leader pa) (pr := pr) (pl := pl) (c := 6) (b := b) (d := d) (by omega) (by omega) hb8 a1 i1 i3 i4
    rw [if_neg (by decide), hAd] at eA
    have eL := C_lastHeld (q := Pa_queues pa) (x := NN ad) q3 q1
    have eAdd := C_addLoad (q := Pa_queues pa) (x := NN ad) (y := wd) l2 hnld l1 l3
    have eSt := C_stepLoading (st := Pa_leader pa) (pr := pr) (x := wd) (by omega) n2 a1 b1 i2
    refine ⟨(upd (St_registers (Pa_leader pa)) a ((wd &&& ~~~(St_stuckMask (Pa_leader pa) a)) ||| St_stuckOnes (Pa_leader pa) a), St_floats (Pa_leader pa), St_stuckMask (Pa_leader pa), St_stuckOnes (Pa_leader pa), NN (pl + 1), NN (nl + 1)), (upd (Qu_loadAddress (Pa_queues pa)) ((fl + nld) % 8) (NN ad), upd (Qu_loadWord (Pa_queues pa)) ((fl + nld) % 8) wd, Qu_branch (Pa_queues pa), Qu_heldAddress (Pa_queues pa), Qu_heldWord (Pa_queues pa), Qu_besideAddress (Pa_queues pa), Qu_besideWord (Pa_queues pa), Qu_firstLoad (Pa_queues pa), NN (nld + 1), Qu_firstBranch (Pa_queues pa), Qu_branches (Pa_queues pa), Qu_held (Pa_queues pa), Qu_comparedHeld (Pa_queues pa)), stpR (upd (upd (upd (upd (M_s (M_rn v)) (87 + nld) (NN ad)) (95 + nld) wd) 86 (NN (nld + 1))) (4 + a) wd) 0 (pl + 1) (nl + 1), pl + 1, nld + 1, nbr, nh, ?_, ?_, ⟨RSt_reg (pl := pl) (s := upd (upd (upd (M_s (M_rn v)) (87 + nld) (NN ad)) (95 + nld) wd) 86 (NN (nld + 1))) (by decide) ?_ hnl (by omega) n2, ?_, RLd_add hLd hnld ?_ ?_ ?_ ?_, RBr_congr hBr ?_, RHe_congr hHe ?_, by omega⟩, ?_⟩
    · unfold f_Pa_stepLeader
      cases hk : lastAt (Qu_heldAddress (Pa_queues pa)) (NN ad) nh with
      | none =>
        rw [hk] at eL
        have hw : Ou_memory (Pa_outside pa) ad = wd := by
          rw [← hwd, lastW, hlast, hk]; exact (hM ad had).symm
        have hneg : (-NN 1 : Int32) < 0 := by decide
        repeat first | (with_reducible refine s_nmj1 ?_) | (with_reducible refine s_nmj2 ?_) | ((with_reducible refine s_nm ?_); intro y_ hy_; (try simp (disch := omega) only [n_lit, n_add, n_mul, n_sub, n_tn, n_ltT, n_ltF, n_leT, n_leF, n_eqT, n_eqF, n_div, n_ixT, n_ixF, n_not, n_md, n_dec, n_and1, n_and3, n_and7, n_and15, n_and31, n_and63, Nat.mod_eq_of_lt, Nat.zero_add, Nat.add_zero, Nat.zero_mul, Nat.sub_zero, not_false_eq_true, not_true_eq_false, upd_at, upd_ne, a1, i1, hw] at hy_); subst hy_) | ((with_reducible refine s_pos ?_ ?_); · simp (disch := omega) only [n_lit, n_add, n_mul, n_sub, n_tn, n_ltT, n_ltF, n_leT, n_leF, n_eqT, n_eqF, n_div, n_ixT, n_ixF, n_not, n_md, n_dec, n_and1, n_and3, n_and7, n_and15, n_and31, n_and63, Nat.mod_eq_of_lt, Nat.zero_add, Nat.add_zero, Nat.zero_mul, Nat.sub_zero, not_false_eq_true, not_true_eq_false, upd_at, upd_ne, a1, i1, hw]) | ((with_reducible refine s_neg ?_ ?_); · simp (disch := omega) only [n_lit, n_add, n_mul, n_sub, n_tn, n_ltT, n_ltF, n_leT, n_leF, n_eqT, n_eqF, n_div, n_ixT, n_ixF, n_not, n_md, n_dec, n_and1, n_and3, n_and7, n_and15, n_and31, n_and63, Nat.mod_eq_of_lt, Nat.zero_add, Nat.add_zero, Nat.zero_mul, Nat.sub_zero, not_false_eq_true, not_true_eq_false, upd_at, upd_ne, a1, i1, hw])  | (with_reducible refine s_bd eA ?_) | (with_reducible refine s_bd eL ?_) | ((with_reducible refine s_pos ?_ ?_); · exact hneg) | ((with_reducible refine s_bd (Eq.trans ?_ eAdd) ?_); · simp (disch := omega) only [n_lit, n_add, n_mul, n_sub, n_tn, n_ltT, n_ltF, n_leT, n_leF, n_eqT, n_eqF, n_div, n_ixT, n_ixF, n_not, n_md, n_dec, n_and1, n_and3, n_and7, n_and15, n_and31, n_and63, Nat.mod_eq_of_lt, Nat.zero_add, Nat.add_zero, Nat.zero_mul, Nat.sub_zero, not_false_eq_true, not_true_eq_false, upd_at, upd_ne, hw]) | ((with_reducible refine s_bd (Eq.trans ?_ eSt) ?_); · simp (disch := omega) only [n_lit, n_add, n_mul, n_sub, n_tn, n_ltT, n_ltF, n_leT, n_leF, n_eqT, n_eqF, n_div, n_ixT, n_ixF, n_not, n_md, n_dec, n_and1, n_and3, n_and7, n_and15, n_and31, n_and63, Nat.mod_eq_of_lt, Nat.zero_add, Nat.add_zero, Nat.zero_mul, Nat.sub_zero, not_false_eq_true, not_true_eq_false, upd_at, upd_ne, hw])
        rfl
      | some k =>
        rw [hk] at eL
        have hkn := lastAt_lt hk
        have hw : Qu_heldWord (Pa_queues pa) k = wd := by
          rw [← hwd, lastW, hlast, hk]; exact (q7 k hkn).2.1.symm
        repeat first | (with_reducible refine s_nmj1 ?_) | (with_reducible refine s_nmj2 ?_) | ((with_reducible refine s_nm ?_); intro y_ hy_; (try simp (disch := omega) only [n_lit, n_add, n_mul, n_sub, n_tn, n_ltT, n_ltF, n_leT, n_leF, n_eqT, n_eqF, n_div, n_ixT, n_ixF, n_not, n_md, n_dec, n_and1, n_and3, n_and7, n_and15, n_and31, n_and63, Nat.mod_eq_of_lt, Nat.zero_add, Nat.add_zero, Nat.zero_mul, Nat.sub_zero, not_false_eq_true, not_true_eq_false, upd_at, upd_ne, a1, i1, hw] at hy_); subst hy_) | ((with_reducible refine s_pos ?_ ?_); · simp (disch := omega) only [n_lit, n_add, n_mul, n_sub, n_tn, n_ltT, n_ltF, n_leT, n_leF, n_eqT, n_eqF, n_div, n_ixT, n_ixF, n_not, n_md, n_dec, n_and1, n_and3, n_and7, n_and15, n_and31, n_and63, Nat.mod_eq_of_lt, Nat.zero_add, Nat.add_zero, Nat.zero_mul, Nat.sub_zero, not_false_eq_true, not_true_eq_false, upd_at, upd_ne, a1, i1, hw]) | ((with_reducible refine s_neg ?_ ?_); · simp (disch := omega) only [n_lit, n_add, n_mul, n_sub, n_tn, n_ltT, n_ltF, n_leT, n_leF, n_eqT, n_eqF, n_div, n_ixT, n_ixF, n_not, n_md, n_dec, n_and1, n_and3, n_and7, n_and15, n_and31, n_and63, Nat.mod_eq_of_lt, Nat.zero_add, Nat.add_zero, Nat.zero_mul, Nat.sub_zero, not_false_eq_true, not_true_eq_false, upd_at, upd_ne, a1, i1, hw])  | (with_reducible refine s_bd eA ?_) | (with_reducible refine s_bd eL ?_) | ((with_reducible refine s_bd (Eq.trans ?_ eAdd) ?_); · simp (disch := omega) only [n_lit, n_add, n_mul, n_sub, n_tn, n_ltT, n_ltF, n_leT, n_leF, n_eqT, n_eqF, n_div, n_ixT, n_ixF, n_not, n_md, n_dec, n_and1, n_and3, n_and7, n_and15, n_and31, n_and63, Nat.mod_eq_of_lt, Nat.zero_add, Nat.add_zero, Nat.zero_mul, Nat.sub_zero, not_false_eq_true, not_true_eq_false, upd_at, upd_ne, hw]) | ((with_reducible refine s_bd (Eq.trans ?_ eSt) ?_); · simp (disch := omega) only [n_lit, n_add, n_mul, n_sub, n_tn, n_ltT, n_ltF, n_leT, n_leF, n_eqT, n_eqF, n_div, n_ixT, n_ixF, n_not, n_md, n_dec, n_and1, n_and3, n_and7, n_and15, n_and31, n_and63, Nat.mod_eq_of_lt, Nat.zero_add, Nat.add_zero, Nat.zero_mul, Nat.sub_zero, not_false_eq_true, not_true_eq_false, upd_at, upd_ne, hw])
        rfl
    · rw [eS]
      have : (upd (upd (upd (upd (M_s (M_rn v)) (87 + nld) (NN ad)) (95 + nld) wd) 86 (NN (nld + 1))) (4 + a) wd) 2 = NN nl := by simp (disch := omega) only [upd_at, upd_ne, if_pos, if_neg]; exact b2
      rw [this, n_add]; rfl
    · exact RSt_congr (by decide) hL (by simp (disch := omega) only [upd_at, upd_ne, if_pos, if_neg]) (by simp (disch := omega) only [upd_at, upd_ne, if_pos, if_neg]) (fun k hk => by simp (disch := omega) only [upd_at, upd_ne, if_pos, if_neg]) (fun k hk => by simp (disch := omega) only [upd_at, upd_ne, if_pos, if_neg]) (fun j hj hj2 => by simp (disch := omega) only [upd_at, upd_ne, if_pos, if_neg])
    · exact other _ _ _ (fun j hj hj2 => by simp (disch := omega) only [upd_at, upd_ne, if_pos, if_neg])
    · rw [stpR_hi (by decide) (by omega)]; simp (disch := omega) only [upd_at, upd_ne, if_pos, if_neg]
    · rw [stpR_hi (by decide) (by omega)]; simp (disch := omega) only [upd_at, upd_ne, if_pos, if_neg]
    · rw [stpR_hi (by decide) (by omega)]; simp (disch := omega) only [upd_at, upd_ne, if_pos, if_neg]
    · intro k hk; rw [stpR_hi (by decide) (by omega), stpR_hi (by decide) (by omega)]; constructor <;> simp (disch := omega) only [upd_at, upd_ne, if_pos, if_neg]
    · intro j hj hj2; rw [stpR_hi (by decide) (by omega)]; simp (disch := omega) only [upd_at, upd_ne, if_pos, if_neg]
    · intro j hj hj2; rw [stpR_hi (by decide) (by omega)]; simp (disch := omega) only [upd_at, upd_ne, if_pos, if_neg]
    · intro j hj; rw [stpR_hi (by decide) (by omega)]; simp (disch := omega) only [upd_at, upd_ne, if_pos, if_neg]
  · subst q
    have hnh := h78 (by omega)
    have hd := j4 (by omega)
    obtain ⟨ad, had, hAd⟩ := and31 (St_registers (Pa_leader pa) b + NN d)
    have e0 : f_M_addressOf ((M_tp v), (M_rd v), (M_lf v), (M_cd v), ((M_s (M_rn v)), (M_spanNow (M_rn v)), (M_sizeNow (M_rn v)), (NN (pl + 1))), (M_ex v), (M_im v), (M_al v), (M_thrown v)) (0 : Int32) (NN pl) = some (NN ad) := (M_addressOf ((M_tp v), (M_rd v), (M_lf v), (M_cd v), ((M_s (M_rn v)), (M_spanNow (M_rn v)), (M_sizeNow (M_rn v)), (NN (pl + 1))), (M_ex v), (M_im v), (M_al v), (M_thrown v)) 0 pl b d (by decide) (by omega) hb8 j3 hd).trans (by rw [← hAd, ← c1 b hb8]; rfl)
    have c1a := c1 a n2
    rw [show 4 + 8 * 0 + a = 4 + a by omega] at c1a
    have eM := M_leaderHolds ((M_tp v), (M_rd v), (M_lf v), (M_cd v), ((M_s (M_rn v)), (M_spanNow (M_rn v)), (M_sizeNow (M_rn v)), (NN (pl + 1))), (M_ex v), (M_im v), (M_al v), (M_thrown v)) (NN ad) (M_s (M_rn v) (4 + a)) nh hnh q2
    have eS := M_st_store0 v pl a b d (by omega) j2 j3 n2 hb8 a2 j1 (al := 0) e0 eM
    have eA := C_address (st := Pa_leader pa) (pr := pr) (pl := pl) (c := 7) (b := b) (d := d) (by omega) (by omega) hb8 a1 i1 i3 i4
    rw [if_neg (by decide), hAd] at eA
    have eW := C_word (st := Pa_leader pa) (pr := pr) (pl := pl) (a := a) (by omega) n2 a1 i2
    have eH := C_hold (q := Pa_queues pa) (x := NN ad) (y := St_registers (Pa_leader pa) a) hnh q1
    have eO := C_stepOn (st := Pa_leader pa) (pl := pl) (n := nl) (by omega) a1 b1
    refine ⟨(St_registers (Pa_leader pa), St_floats (Pa_leader pa), St_stuckMask (Pa_leader pa), St_stuckOnes (Pa_leader pa), NN (pl + 1), NN (nl + 1)), (Qu_loadAddress (Pa_queues pa), Qu_loadWord (Pa_queues pa), Qu_branch (Pa_queues pa), upd (Qu_heldAddress (Pa_queues pa)) nh (NN ad), upd (Qu_heldWord (Pa_queues pa)) nh (St_registers (Pa_leader pa) a), Qu_besideAddress (Pa_queues pa), Qu_besideWord (Pa_queues pa), Qu_firstLoad (Pa_queues pa), Qu_loads (Pa_queues pa), Qu_firstBranch (Pa_queues pa), Qu_branches (Pa_queues pa), NN (nh + 1), Qu_comparedHeld (Pa_queues pa)), stpR (upd (upd (upd (M_s (M_rn v)) (114 + nh) (NN ad)) (122 + nh) (M_s (M_rn v) (4 + a))) 112 (NN (nh + 1))) 0 (pl + 1) (nl + 1), pl + 1, nld, nbr, nh + 1, ?_, ?_,
      ⟨RSt_go (pl := pl) (s := upd (upd (upd (M_s (M_rn v)) (114 + nh) (NN ad)) (122 + nh) (M_s (M_rn v) (4 + a))) 112 (NN (nh + 1))) (by decide) ?_ hnl (by omega), ?_, RLd_congr hLd ?_, RBr_congr hBr ?_, RHe_hold hHe hnh (by omega) ?_ ?_ ?_ ?_ ?_ ?_, by omega⟩, ?_⟩
    · unfold f_Pa_stepLeader
      repeat first | (with_reducible refine s_nmj1 ?_) | (with_reducible refine s_nmj2 ?_) | ((with_reducible refine s_nm ?_); intro y_ hy_; (try simp (disch := omega) only [n_lit, n_add, n_mul, n_sub, n_tn, n_ltT, n_ltF, n_leT, n_leF, n_eqT, n_eqF, n_div, n_ixT, n_ixF, n_not, n_md, n_dec, n_and1, n_and3, n_and7, n_and15, n_and31, n_and63, Nat.mod_eq_of_lt, Nat.zero_add, Nat.add_zero, Nat.zero_mul, Nat.sub_zero, not_false_eq_true, not_true_eq_false, upd_at, upd_ne, a1, i1] at hy_); subst hy_) | ((with_reducible refine s_pos ?_ ?_); · simp (disch := omega) only [n_lit, n_add, n_mul, n_sub, n_tn, n_ltT, n_ltF, n_leT, n_leF, n_eqT, n_eqF, n_div, n_ixT, n_ixF, n_not, n_md, n_dec, n_and1, n_and3, n_and7, n_and15, n_and31, n_and63, Nat.mod_eq_of_lt, Nat.zero_add, Nat.add_zero, Nat.zero_mul, Nat.sub_zero, not_false_eq_true, not_true_eq_false, upd_at, upd_ne, a1, i1]) | ((with_reducible refine s_neg ?_ ?_); · simp (disch := omega) only [n_lit, n_add, n_mul, n_sub, n_tn, n_ltT, n_ltF, n_leT, n_leF, n_eqT, n_eqF, n_div, n_ixT, n_ixF, n_not, n_md, n_dec, n_and1, n_and3, n_and7, n_and15, n_and31, n_and63, Nat.mod_eq_of_lt, Nat.zero_add, Nat.add_zero, Nat.zero_mul, Nat.sub_zero, not_false_eq_true, not_true_eq_false, upd_at, upd_ne, a1, i1])  | (with_reducible refine s_bd eA ?_) | (with_reducible refine s_bd eW ?_) | (with_reducible refine s_bd eH ?_) | (with_reducible refine s_bd eO ?_)
      rfl
    · rw [eS]
      have : (upd (upd (upd (M_s (M_rn v)) (114 + nh) (NN ad)) (122 + nh) (M_s (M_rn v) (4 + a))) 112 (NN (nh + 1))) 2 = NN nl := by simp (disch := omega) only [upd_at, upd_ne, if_pos, if_neg]; exact b2
      simp only [M_tp_mk, M_rd_mk, M_lf_mk, M_cd_mk, M_rn_mk, M_ex_mk, M_im_mk, M_al_mk, M_thrown_mk, M_s_mk, M_spanNow_mk, M_sizeNow_mk, M_placeThen_mk]
      rw [this, n_add]; rfl
    · exact RSt_congr (by decide) hL (by simp (disch := omega) only [upd_at, upd_ne, if_pos, if_neg]) (by simp (disch := omega) only [upd_at, upd_ne, if_pos, if_neg]) (fun k hk => by simp (disch := omega) only [upd_at, upd_ne, if_pos, if_neg]) (fun k hk => by simp (disch := omega) only [upd_at, upd_ne, if_pos, if_neg]) (fun j hj hj2 => by simp (disch := omega) only [upd_at, upd_ne, if_pos, if_neg])
    · exact other _ _ _ (fun j hj hj2 => by simp (disch := omega) only [upd_at, upd_ne, if_pos, if_neg])
    · intro j hj hj2; rw [stpR_hi (by decide) (by omega)]; simp (disch := omega) only [upd_at, upd_ne, if_pos, if_neg]
    · intro j hj hj2; rw [stpR_hi (by decide) (by omega)]; simp (disch := omega) only [upd_at, upd_ne, if_pos, if_neg]
    · rw [stpR_hi (by decide) (by omega)]; simp (disch := omega) only [upd_at, upd_ne, if_pos, if_neg]
    · rw [stpR_hi (by decide) (by omega)]; simp (disch := omega) only [upd_at, upd_ne, if_pos, if_neg]
    · rw [stpR_hi (by decide) (by omega)]; simp (disch := omega) only [upd_at, upd_ne, if_pos, if_neg]
    · rw [stpR_hi (by decide) (by omega)]; simp (disch := omega) only [upd_at, upd_ne, if_pos, if_neg]; exact c1a
    · intro k hk; rw [stpR_hi (by decide) (by omega), stpR_hi (by decide) (by omega)]; constructor <;> simp (disch := omega) only [upd_at, upd_ne, if_pos, if_neg]
    · intro k hk; rw [stpR_hi (by decide) (by omega), stpR_hi (by decide) (by omega)]; constructor <;> simp (disch := omega) only [upd_at, upd_ne, if_pos, if_neg]
    · intro j hj; rw [stpR_hi (by decide) (by omega)]; simp (disch := omega) only [upd_at, upd_ne, if_pos, if_neg]
  · subst q
    have hnh := h78 (by omega)
    skip
    have c1a := c1 a n2
    rw [show 4 + 8 * 0 + a = 4 + a by omega] at c1a
    have eM := M_leaderHolds ((M_tp v), (M_rd v), (M_lf v), (M_cd v), ((M_s (M_rn v)), (M_spanNow (M_rn v)), (M_sizeNow (M_rn v)), (NN (pl + 1))), (M_ex v), (M_im v), (M_al v), (M_thrown v)) (NN 32) (M_s (M_rn v) (4 + a)) nh hnh q2
    have eS := M_st_out0 v pl a b d (by omega) j2 j3 n2 hb8 a2 j1 (al := 0) eM
    have eA := C_address (st := Pa_leader pa) (pr := pr) (pl := pl) (c := 8) (b := b) (d := d) (by omega) (by omega) hb8 a1 i1 i3 i4
    rw [if_pos rfl] at eA
    have eW := C_word (st := Pa_leader pa) (pr := pr) (pl := pl) (a := a) (by omega) n2 a1 i2
    have eH := C_hold (q := Pa_queues pa) (x := NN 32) (y := St_registers (Pa_leader pa) a) hnh q1
    have eO := C_stepOn (st := Pa_leader pa) (pl := pl) (n := nl) (by omega) a1 b1
    refine ⟨(St_registers (Pa_leader pa), St_floats (Pa_leader pa), St_stuckMask (Pa_leader pa), St_stuckOnes (Pa_leader pa), NN (pl + 1), NN (nl + 1)), (Qu_loadAddress (Pa_queues pa), Qu_loadWord (Pa_queues pa), Qu_branch (Pa_queues pa), upd (Qu_heldAddress (Pa_queues pa)) nh (NN 32), upd (Qu_heldWord (Pa_queues pa)) nh (St_registers (Pa_leader pa) a), Qu_besideAddress (Pa_queues pa), Qu_besideWord (Pa_queues pa), Qu_firstLoad (Pa_queues pa), Qu_loads (Pa_queues pa), Qu_firstBranch (Pa_queues pa), Qu_branches (Pa_queues pa), NN (nh + 1), Qu_comparedHeld (Pa_queues pa)), stpR (upd (upd (upd (M_s (M_rn v)) (114 + nh) (NN 32)) (122 + nh) (M_s (M_rn v) (4 + a))) 112 (NN (nh + 1))) 0 (pl + 1) (nl + 1), pl + 1, nld, nbr, nh + 1, ?_, ?_,
      ⟨RSt_go (pl := pl) (s := upd (upd (upd (M_s (M_rn v)) (114 + nh) (NN 32)) (122 + nh) (M_s (M_rn v) (4 + a))) 112 (NN (nh + 1))) (by decide) ?_ hnl (by omega), ?_, RLd_congr hLd ?_, RBr_congr hBr ?_, RHe_hold hHe hnh (by omega) ?_ ?_ ?_ ?_ ?_ ?_, by omega⟩, ?_⟩
    · unfold f_Pa_stepLeader
      repeat first | (with_reducible refine s_nmj1 ?_) | (with_reducible refine s_nmj2 ?_) | ((with_reducible refine s_nm ?_); intro y_ hy_; (try simp (disch := omega) only [n_lit, n_add, n_mul, n_sub, n_tn, n_ltT, n_ltF, n_leT, n_leF, n_eqT, n_eqF, n_div, n_ixT, n_ixF, n_not, n_md, n_dec, n_and1, n_and3, n_and7, n_and15, n_and31, n_and63, Nat.mod_eq_of_lt, Nat.zero_add, Nat.add_zero, Nat.zero_mul, Nat.sub_zero, not_false_eq_true, not_true_eq_false, upd_at, upd_ne, a1, i1] at hy_); subst hy_) | ((with_reducible refine s_pos ?_ ?_); · simp (disch := omega) only [n_lit, n_add, n_mul, n_sub, n_tn, n_ltT, n_ltF, n_leT, n_leF, n_eqT, n_eqF, n_div, n_ixT, n_ixF, n_not, n_md, n_dec, n_and1, n_and3, n_and7, n_and15, n_and31, n_and63, Nat.mod_eq_of_lt, Nat.zero_add, Nat.add_zero, Nat.zero_mul, Nat.sub_zero, not_false_eq_true, not_true_eq_false, upd_at, upd_ne, a1, i1]) | ((with_reducible refine s_neg ?_ ?_); · simp (disch := omega) only [n_lit, n_add, n_mul, n_sub, n_tn, n_ltT, n_ltF, n_leT, n_leF, n_eqT, n_eqF, n_div, n_ixT, n_ixF, n_not, n_md, n_dec, n_and1, n_and3, n_and7, n_and15, n_and31, n_and63, Nat.mod_eq_of_lt, Nat.zero_add, Nat.add_zero, Nat.zero_mul, Nat.sub_zero, not_false_eq_true, not_true_eq_false, upd_at, upd_ne, a1, i1])  | (with_reducible refine s_bd eA ?_) | (with_reducible refine s_bd eW ?_) | (with_reducible refine s_bd eH ?_) | (with_reducible refine s_bd eO ?_)
      rfl
    · rw [eS]
      have : (upd (upd (upd (M_s (M_rn v)) (114 + nh) (NN 32)) (122 + nh) (M_s (M_rn v) (4 + a))) 112 (NN (nh + 1))) 2 = NN nl := by simp (disch := omega) only [upd_at, upd_ne, if_pos, if_neg]; exact b2
      simp only [M_tp_mk, M_rd_mk, M_lf_mk, M_cd_mk, M_rn_mk, M_ex_mk, M_im_mk, M_al_mk, M_thrown_mk, M_s_mk, M_spanNow_mk, M_sizeNow_mk, M_placeThen_mk]
      rw [this, n_add]; rfl
    · exact RSt_congr (by decide) hL (by simp (disch := omega) only [upd_at, upd_ne, if_pos, if_neg]) (by simp (disch := omega) only [upd_at, upd_ne, if_pos, if_neg]) (fun k hk => by simp (disch := omega) only [upd_at, upd_ne, if_pos, if_neg]) (fun k hk => by simp (disch := omega) only [upd_at, upd_ne, if_pos, if_neg]) (fun j hj hj2 => by simp (disch := omega) only [upd_at, upd_ne, if_pos, if_neg])
    · exact other _ _ _ (fun j hj hj2 => by simp (disch := omega) only [upd_at, upd_ne, if_pos, if_neg])
    · intro j hj hj2; rw [stpR_hi (by decide) (by omega)]; simp (disch := omega) only [upd_at, upd_ne, if_pos, if_neg]
    · intro j hj hj2; rw [stpR_hi (by decide) (by omega)]; simp (disch := omega) only [upd_at, upd_ne, if_pos, if_neg]
    · rw [stpR_hi (by decide) (by omega)]; simp (disch := omega) only [upd_at, upd_ne, if_pos, if_neg]
    · rw [stpR_hi (by decide) (by omega)]; simp (disch := omega) only [upd_at, upd_ne, if_pos, if_neg]
    · rw [stpR_hi (by decide) (by omega)]; simp (disch := omega) only [upd_at, upd_ne, if_pos, if_neg]
    · rw [stpR_hi (by decide) (by omega)]; simp (disch := omega) only [upd_at, upd_ne, if_pos, if_neg]; exact c1a
    · intro k hk; rw [stpR_hi (by decide) (by omega), stpR_hi (by decide) (by omega)]; constructor <;> simp (disch := omega) only [upd_at, upd_ne, if_pos, if_neg]
    · intro k hk; rw [stpR_hi (by decide) (by omega), stpR_hi (by decide) (by omega)]; constructor <;> simp (disch := omega) only [upd_at, upd_ne, if_pos, if_neg]
    · intro j hj; rw [stpR_hi (by decide) (by omega)]; simp (disch := omega) only [upd_at, upd_ne, if_pos, if_neg]
  · have hnbr := h15 q
    have hd := j5 (by omega)
    obtain ⟨g, hg, eC, eMg⟩ := C_goes (st := Pa_leader pa) (pr := pr) (pl := pl) (c := c) (a := a) (b := b) (by omega) (by omega) n2 hb8 n11 a1 i1 i2 i3
    have eM := M_branches0 ((M_tp v), (M_rd v), (M_lf v), (M_cd v), ((M_s (M_rn v)), (M_spanNow (M_rn v)), (M_sizeNow (M_rn v)), (NN (pl + 1))), (M_ex v), (M_im v), (M_al v), (M_thrown v)) pl d nbr g (by omega) hd r4 hnbr hg
    have eS := M_st_branch0 v pl a b d (by omega) j2 j3 (c := c + 6) (g := g) (al := 0) n2 hb8 a2 j1 (by omega) (by
      have x1 := c1 a n2
      have x2 := c1 b hb8
      have x3 := c2 (a % 4) (by omega)
      have x4 := c2 (b % 4) (by omega)
      rw [show 4 + 8 * 0 + a = 4 + a by omega] at x1
      rw [show 4 + 8 * 0 + b = 4 + b by omega] at x2
      rw [show 20 + 4 * 0 + a % 4 = 20 + a % 4 by omega] at x3
      rw [show 20 + 4 * 0 + b % 4 = 20 + b % 4 by omega] at x4
      rw [x1, x2, x3, x4]; exact eMg) eM
    have eAdd := C_addBranch (q := Pa_queues pa) (f := fb) (n := nbr) (g := g) r2 hnbr hg r1 r3
    obtain ⟨pl', hpl', eTo, ePt⟩ : ∃ pl', pl' < 64 ∧ f_St_stepTo (Pa_leader pa) pr (NN g) = some (St_registers (Pa_leader pa), St_floats (Pa_leader pa), St_stuckMask (Pa_leader pa), St_stuckOnes (Pa_leader pa), NN pl', NN (nl + 1)) ∧ (if g = 0 then (NN (pl + 1)) else NN d) = NN pl' := by
      rcases (by omega : g = 0 ∨ g = 1) with rfl | rfl
      · exact ⟨pl + 1, by omega, C_stepTo0 (by omega) a1 b1, rfl⟩
      · exact ⟨d, by omega, C_stepTo1 (by omega) n4 a1 b1 i4, rfl⟩
    refine ⟨(St_registers (Pa_leader pa), St_floats (Pa_leader pa), St_stuckMask (Pa_leader pa), St_stuckOnes (Pa_leader pa), NN pl', NN (nl + 1)), (Qu_loadAddress (Pa_queues pa), Qu_loadWord (Pa_queues pa), upd (Qu_branch (Pa_queues pa)) ((fb + nbr) % 8) (NN g), Qu_heldAddress (Pa_queues pa), Qu_heldWord (Pa_queues pa), Qu_besideAddress (Pa_queues pa), Qu_besideWord (Pa_queues pa), Qu_firstLoad (Pa_queues pa), Qu_loads (Pa_queues pa), Qu_firstBranch (Pa_queues pa), NN (nbr + 1), Qu_held (Pa_queues pa), Qu_comparedHeld (Pa_queues pa)), stpR (upd (upd (M_s (M_rn v)) (104 + nbr) (NN g)) 103 (NN (nbr + 1))) 0 pl' (nl + 1), pl', nld, nbr + 1, nh, ?_, ?_,
      ⟨RSt_go (pl := pl) (s := upd (upd (M_s (M_rn v)) (104 + nbr) (NN g)) 103 (NN (nbr + 1))) (by decide) ?_ hnl hpl', ?_, RLd_congr hLd ?_, RBr_add hBr hg hnbr ?_ ?_ ?_, RHe_congr hHe ?_, by omega⟩, ?_⟩
    · unfold f_Pa_stepLeader
      repeat first | (with_reducible refine s_nmj1 ?_) | (with_reducible refine s_nmj2 ?_) | ((with_reducible refine s_nm ?_); intro y_ hy_; (try simp (disch := omega) only [n_lit, n_add, n_mul, n_sub, n_tn, n_ltT, n_ltF, n_leT, n_leF, n_eqT, n_eqF, n_div, n_ixT, n_ixF, n_not, n_md, n_dec, n_and1, n_and3, n_and7, n_and15, n_and31, n_and63, Nat.mod_eq_of_lt, Nat.zero_add, Nat.add_zero, Nat.zero_mul, Nat.sub_zero, not_false_eq_true, not_true_eq_false, upd_at, upd_ne, a1, i1] at hy_); subst hy_) | ((with_reducible refine s_pos ?_ ?_); · simp (disch := omega) only [n_lit, n_add, n_mul, n_sub, n_tn, n_ltT, n_ltF, n_leT, n_leF, n_eqT, n_eqF, n_div, n_ixT, n_ixF, n_not, n_md, n_dec, n_and1, n_and3, n_and7, n_and15, n_and31, n_and63, Nat.mod_eq_of_lt, Nat.zero_add, Nat.add_zero, Nat.zero_mul, Nat.sub_zero, not_false_eq_true, not_true_eq_false, upd_at, upd_ne, a1, i1]) | ((with_reducible refine s_neg ?_ ?_); · simp (disch := omega) only [n_lit, n_add, n_mul, n_sub, n_tn, n_ltT, n_ltF, n_leT, n_leF, n_eqT, n_eqF, n_div, n_ixT, n_ixF, n_not, n_md, n_dec, n_and1, n_and3, n_and7, n_and15, n_and31, n_and63, Nat.mod_eq_of_lt, Nat.zero_add, Nat.add_zero, Nat.zero_mul, Nat.sub_zero, not_false_eq_true, not_true_eq_false, upd_at, upd_ne, a1, i1])  | (with_reducible refine s_bd eC ?_) | (with_reducible refine s_bd eAdd ?_) | (with_reducible refine s_bd eTo ?_)
      rfl
    · have hpt : (if g = 0 then M_placeThen (M_rn ((M_tp v), (M_rd v), (M_lf v), (M_cd v), ((M_s (M_rn v)), (M_spanNow (M_rn v)), (M_sizeNow (M_rn v)), (NN (pl + 1))), (M_ex v), (M_im v), (M_al v), (M_thrown v))) else NN d) = NN pl' := ePt
      rw [hpt] at eM
      have eS := M_st_branch0 v pl a b d (by omega) j2 j3 (c := c + 6) (g := g) (al := 0) n2 hb8 a2 j1 (by omega) (by
        have x1 := c1 a n2
        have x2 := c1 b hb8
        have x3 := c2 (a % 4) (by omega)
        have x4 := c2 (b % 4) (by omega)
        rw [show 4 + 8 * 0 + a = 4 + a by omega] at x1
        rw [show 4 + 8 * 0 + b = 4 + b by omega] at x2
        rw [show 20 + 4 * 0 + a % 4 = 20 + a % 4 by omega] at x3
        rw [show 20 + 4 * 0 + b % 4 = 20 + b % 4 by omega] at x4
        rw [x1, x2, x3, x4]; exact eMg) eM
      rw [eS]
      have : (upd (upd (M_s (M_rn v)) (104 + nbr) (NN g)) 103 (NN (nbr + 1))) 2 = NN nl := by simp (disch := omega) only [upd_at, upd_ne, if_pos, if_neg]; exact b2
      simp only [M_tp_mk, M_rd_mk, M_lf_mk, M_cd_mk, M_rn_mk, M_ex_mk, M_im_mk, M_al_mk, M_thrown_mk, M_s_mk, M_spanNow_mk, M_sizeNow_mk, M_placeThen_mk]
      rw [this, n_add]; rfl
    · exact RSt_congr (by decide) hL (by simp (disch := omega) only [upd_at, upd_ne, if_pos, if_neg]) (by simp (disch := omega) only [upd_at, upd_ne, if_pos, if_neg]) (fun k hk => by simp (disch := omega) only [upd_at, upd_ne, if_pos, if_neg]) (fun k hk => by simp (disch := omega) only [upd_at, upd_ne, if_pos, if_neg]) (fun j hj hj2 => by simp (disch := omega) only [upd_at, upd_ne, if_pos, if_neg])
    · exact other _ _ _ (fun j hj hj2 => by simp (disch := omega) only [upd_at, upd_ne, if_pos, if_neg])
    · intro j hj hj2; rw [stpR_hi (by decide) (by omega)]; simp (disch := omega) only [upd_at, upd_ne, if_pos, if_neg]
    · rw [stpR_hi (by decide) (by omega)]; simp (disch := omega) only [upd_at, upd_ne, if_pos, if_neg]
    · rw [stpR_hi (by decide) (by omega)]; simp (disch := omega) only [upd_at, upd_ne, if_pos, if_neg]
    · intro k hk; rw [stpR_hi (by decide) (by omega)]; simp (disch := omega) only [upd_at, upd_ne, if_pos, if_neg]
    · intro j hj hj2; rw [stpR_hi (by decide) (by omega)]; simp (disch := omega) only [upd_at, upd_ne, if_pos, if_neg]
    · intro j hj; rw [stpR_hi (by decide) (by omega)]; simp (disch := omega) only [upd_at, upd_ne, if_pos, if_neg]
