/-! a TURN: class and model go alike -/
def RPa (B : Nat) (pa : T_Pa) (pr : T_Pg) (v : T_M) : Prop :=
  ∃ n sp lo hi z0 z1 z2 tr pl nl pt nt pb fl nld fb nbr nh nc ns no tu po al si sm dn dw,
    RCd pr v n ∧ RRu (Pa_rules pa) v sp lo hi z0 z1 z2 tr ∧ RTQ (Pa_leader pa) (Pa_trailer pa) (Pa_queues pa) (M_s (M_rn v)) pl nl pt nt fl nld fb nbr nh nc ∧ RBk (Pa_point pa) (M_s (M_rn v)) pb ∧ ROu (Pa_outside pa) (M_s (M_rn v)) ns no ∧ RTa (Pa_tally pa) (M_s (M_rn v)) tu po al si sm ∧
    (Pa_done pa = NN dn ∧ M_s (M_rn v) 226 = NN dn ∧ dn ≤ 1) ∧ (Pa_down pa = NN dw ∧ M_s (M_rn v) 227 = NN dw ∧ dw ≤ 1) ∧ (tu ≤ B ∧ po ≤ tu ∧ al ≤ tu ∧ ns + no ≤ 8 * tu ∧ sm ≤ 40 * tu ∧ si ≤ 9 ∧ (dw = 0 → si < tr))
theorem RTQ_congr {sl st : T_St} {q : T_Qu} {s r : Nat → Int32} {pl nl pt nt fl nld fb nbr nh nc : Nat} (h : RTQ sl st q s pl nl pt nt fl nld fb nbr nh nc) (e : ∀ j, j < 28 ∨ (54 ≤ j ∧ j < 146) → r j = s j) : RTQ sl st q r pl nl pt nt fl nld fb nbr nh nc := by
  obtain ⟨h1, h2, h3, h4, h5, h6⟩ := h
  exact ⟨RSt_congr (by decide) h1 (e _ (by omega)) (e _ (by omega)) (fun k hk => e _ (by omega)) (fun k hk => e _ (by omega)) (fun j hj hj2 => e _ (by omega)),
    RSt_congr (by decide) h2 (e _ (by omega)) (e _ (by omega)) (fun k hk => e _ (by omega)) (fun k hk => e _ (by omega)) (fun j hj hj2 => e _ (by omega)),
    RLd_congr h3 (fun j hj hj2 => e _ (by omega)), RBr_congr h4 (fun j hj hj2 => e _ (by omega)), RHe_congr h5 (fun j hj hj2 => e _ (by omega)), h6⟩
theorem RTa_up {t : T_Ta} {S r : Nat → Int32} {tu po al si sm : Nat} {x y : Int32} (h : RTa t S tu po al si sm) (h219 : r 219 = S 219 + NN 1) (h228 : r 228 = x) (h229 : r 229 = y) (he : ∀ j, (220 ≤ j ∧ j < 224) ∨ j = 230 ∨ j = 231 ∨ (233 ≤ j ∧ j < 265) → r j = S j) :
    RTa (Ta_alarmSort t, Ta_alarmTurn t, Ta_alarmLeaderSteps t, Ta_alarmTrailerSteps t, Ta_turns t + NN 1, Ta_points t, Ta_alarms t, Ta_alarmsSincePoint t, Ta_greatestAhead t, Ta_aheadSum t, x, y, Ta_comparedSteps t) r (tu + 1) po al si sm := by
  obtain ⟨⟨t1, t2⟩, ⟨t3, t4⟩, ⟨t5, t6⟩, ⟨t7, t8⟩, ⟨t9, t10⟩, ⟨ga, t11, t12, t13⟩, t14, t15, t16, t17⟩ := h
  refine ⟨⟨?_, ?_⟩, ⟨t3, (he _ (by omega)).trans t4⟩, ⟨t5, (he _ (by omega)).trans t6⟩, ⟨t7, (he _ (by omega)).trans t8⟩, ⟨t9, (he _ (by omega)).trans t10⟩, ⟨ga, t11, t12, (he _ (by omega)).trans t13⟩, h228.symm, h229.symm, t16.trans (he _ (by omega)).symm, fun k hk hk2 => ?_⟩
  · show Ta_turns t + NN 1 = NN (tu + 1)
    rw [t1, n_add]
  · rw [h219, t2, n_add]
  · rw [he _ (by omega), he _ (by omega), he _ (by omega), he _ (by omega)]; exact t17 k hk hk2
theorem mF_ne {r : Nat → Int32} {d j : Nat} (h : j ≠ 223) (h2 : j ≠ 230) : mF r d j = r j := by simp only [mF]; rw [upd_ne h, upd_ne h2]
theorem RTa_fin {t : T_Ta} {r : Nat → Int32} {tu po al si sm d : Nat} (h : RTa t r tu po al si sm) (hd : d ≤ 40) :
    RTa (Ta_alarmSort t, Ta_alarmTurn t, Ta_alarmLeaderSteps t, Ta_alarmTrailerSteps t, Ta_turns t, Ta_points t, Ta_alarms t, Ta_alarmsSincePoint t, (if Ta_greatestAhead t < NN d then NN d else Ta_greatestAhead t), Ta_aheadSum t + NN d, Ta_leaderTurns t, Ta_trailerTurns t, Ta_comparedSteps t) (mF r d) tu po al si (sm + d) := by
  obtain ⟨⟨t1, t2⟩, ⟨t3, t4⟩, ⟨t5, t6⟩, ⟨t7, t8⟩, ⟨t9, t10⟩, ⟨ga, t11, t12, t13⟩, t14, t15, t16, t17⟩ := h
  refine ⟨⟨t1, (mF_ne (by omega) (by omega)).trans t2⟩, ⟨t3, (mF_ne (by omega) (by omega)).trans t4⟩, ⟨t5, (mF_ne (by omega) (by omega)).trans t6⟩, ⟨t7, (mF_ne (by omega) (by omega)).trans t8⟩, ⟨?_, ?_⟩, ⟨if ga < d then d else ga, by split <;> omega, ?_, ?_⟩, t14.trans (mF_ne (by omega) (by omega)).symm, t15.trans (mF_ne (by omega) (by omega)).symm, t16.trans (mF_ne (by omega) (by omega)).symm, fun k hk hk2 => ?_⟩
  · show Ta_aheadSum t + NN d = NN (sm + d)
    rw [t9, n_add]
  · simp only [mF]; rw [upd_ne (by omega), upd_at rfl, t10, n_add]
  · show (if Ta_greatestAhead t < NN d then NN d else Ta_greatestAhead t) = _
    rw [t12]
    by_cases q : ga < d
    · rw [if_pos q, if_pos (by simp (disch := omega) only [n_ltT])]
    · rw [if_neg q, if_neg (by simp (disch := omega) only [n_ltF, not_false_eq_true])]
  · simp only [mF]; rw [upd_at rfl, t13]
    by_cases q : ga < d
    · rw [if_pos q, if_neg (by simp (disch := omega) only [n_leF, not_false_eq_true])]
    · rw [if_neg q, if_pos (by simp (disch := omega) only [n_leT])]
  · rw [mF_ne (by omega) (by omega), mF_ne (by omega) (by omega), mF_ne (by omega) (by omega), mF_ne (by omega) (by omega)]; exact t17 k hk hk2
theorem C_upT {pa : T_Pa} {pr : T_Pg} {k : Nat} (hk : k ≤ 6) (h1 : Pa_done pa = NN 0) (h2 : Pa_down pa = NN 0) (hy : f_Pa_whyTrailerWaits pa pr = some (NN 0)) (ha : f_Pa_alarmOfTrailer pa pr = some (NN k)) : f_Pa_upcoming pa pr = some (NN (if k = 0 then 0 else 10 + k)) := by
  unfold f_Pa_upcoming
  by_cases q : k = 0
  · repeat first | (with_reducible refine s_nmj1 ?_) | (with_reducible refine s_nmj2 ?_) | ((with_reducible refine s_nm ?_); intro y_ hy_; (try simp (disch := omega) only [n_lit, n_add, n_mul, n_sub, n_tn, n_ltT, n_ltF, n_leT, n_leF, n_eqT, n_eqF, n_div, n_ixT, n_ixF, n_not, n_md, n_dec, n_and1, n_and3, n_and7, n_and15, n_and31, n_and63, Nat.mod_eq_of_lt, Nat.zero_add, Nat.add_zero, Nat.zero_mul, Nat.sub_zero, not_false_eq_true, not_true_eq_false, upd_at, upd_ne, h1, h2] at hy_); subst hy_) | ((with_reducible refine s_pos ?_ ?_); · simp (disch := omega) only [n_lit, n_add, n_mul, n_sub, n_tn, n_ltT, n_ltF, n_leT, n_leF, n_eqT, n_eqF, n_div, n_ixT, n_ixF, n_not, n_md, n_dec, n_and1, n_and3, n_and7, n_and15, n_and31, n_and63, Nat.mod_eq_of_lt, Nat.zero_add, Nat.add_zero, Nat.zero_mul, Nat.sub_zero, not_false_eq_true, not_true_eq_false, upd_at, upd_ne, h1, h2]) | ((with_reducible refine s_neg ?_ ?_); · simp (disch := omega) only [n_lit, n_add, n_mul, n_sub, n_tn, n_ltT, n_ltF, n_leT, n_leF, n_eqT, n_eqF, n_div, n_ixT, n_ixF, n_not, n_md, n_dec, n_and1, n_and3, n_and7, n_and15, n_and31, n_and63, Nat.mod_eq_of_lt, Nat.zero_add, Nat.add_zero, Nat.zero_mul, Nat.sub_zero, not_false_eq_true, not_true_eq_false, upd_at, upd_ne, h1, h2])  | (with_reducible refine s_bd hy ?_) | (with_reducible refine s_bd ha ?_)
    rw [if_pos q]; rfl
  · repeat first | (with_reducible refine s_nmj1 ?_) | (with_reducible refine s_nmj2 ?_) | ((with_reducible refine s_nm ?_); intro y_ hy_; (try simp (disch := omega) only [n_lit, n_add, n_mul, n_sub, n_tn, n_ltT, n_ltF, n_leT, n_leF, n_eqT, n_eqF, n_div, n_ixT, n_ixF, n_not, n_md, n_dec, n_and1, n_and3, n_and7, n_and15, n_and31, n_and63, Nat.mod_eq_of_lt, Nat.zero_add, Nat.add_zero, Nat.zero_mul, Nat.sub_zero, not_false_eq_true, not_true_eq_false, upd_at, upd_ne, h1, h2] at hy_); subst hy_) | ((with_reducible refine s_pos ?_ ?_); · simp (disch := omega) only [n_lit, n_add, n_mul, n_sub, n_tn, n_ltT, n_ltF, n_leT, n_leF, n_eqT, n_eqF, n_div, n_ixT, n_ixF, n_not, n_md, n_dec, n_and1, n_and3, n_and7, n_and15, n_and31, n_and63, Nat.mod_eq_of_lt, Nat.zero_add, Nat.add_zero, Nat.zero_mul, Nat.sub_zero, not_false_eq_true, not_true_eq_false, upd_at, upd_ne, h1, h2]) | ((with_reducible refine s_neg ?_ ?_); · simp (disch := omega) only [n_lit, n_add, n_mul, n_sub, n_tn, n_ltT, n_ltF, n_leT, n_leF, n_eqT, n_eqF, n_div, n_ixT, n_ixF, n_not, n_md, n_dec, n_and1, n_and3, n_and7, n_and15, n_and31, n_and63, Nat.mod_eq_of_lt, Nat.zero_add, Nat.add_zero, Nat.zero_mul, Nat.sub_zero, not_false_eq_true, not_true_eq_false, upd_at, upd_ne, h1, h2])  | (with_reducible refine s_bd hy ?_) | (with_reducible refine s_bd ha ?_)
    rw [if_neg q, ← n_add]; rfl
theorem C_upL {pa : T_Pa} {pr : T_Pg} {y : Nat} (hy0 : 1 ≤ y ∧ y ≤ 4) (h1 : Pa_done pa = NN 0) (h2 : Pa_down pa = NN 0) (hy : f_Pa_whyTrailerWaits pa pr = some (NN y)) (ha : f_Pa_whyLeaderWaits pa pr = some (NN 0)) : f_Pa_upcoming pa pr = some (NN 1) := by
  unfold f_Pa_upcoming
  repeat first | (with_reducible refine s_nmj1 ?_) | (with_reducible refine s_nmj2 ?_) | ((with_reducible refine s_nm ?_); intro y_ hy_; (try simp (disch := omega) only [n_lit, n_add, n_mul, n_sub, n_tn, n_ltT, n_ltF, n_leT, n_leF, n_eqT, n_eqF, n_div, n_ixT, n_ixF, n_not, n_md, n_dec, n_and1, n_and3, n_and7, n_and15, n_and31, n_and63, Nat.mod_eq_of_lt, Nat.zero_add, Nat.add_zero, Nat.zero_mul, Nat.sub_zero, not_false_eq_true, not_true_eq_false, upd_at, upd_ne, h1, h2] at hy_); subst hy_) | ((with_reducible refine s_pos ?_ ?_); · simp (disch := omega) only [n_lit, n_add, n_mul, n_sub, n_tn, n_ltT, n_ltF, n_leT, n_leF, n_eqT, n_eqF, n_div, n_ixT, n_ixF, n_not, n_md, n_dec, n_and1, n_and3, n_and7, n_and15, n_and31, n_and63, Nat.mod_eq_of_lt, Nat.zero_add, Nat.add_zero, Nat.zero_mul, Nat.sub_zero, not_false_eq_true, not_true_eq_false, upd_at, upd_ne, h1, h2]) | ((with_reducible refine s_neg ?_ ?_); · simp (disch := omega) only [n_lit, n_add, n_mul, n_sub, n_tn, n_ltT, n_ltF, n_leT, n_leF, n_eqT, n_eqF, n_div, n_ixT, n_ixF, n_not, n_md, n_dec, n_and1, n_and3, n_and7, n_and15, n_and31, n_and63, Nat.mod_eq_of_lt, Nat.zero_add, Nat.add_zero, Nat.zero_mul, Nat.sub_zero, not_false_eq_true, not_true_eq_false, upd_at, upd_ne, h1, h2])  | (with_reducible refine s_bd hy ?_) | (with_reducible refine s_bd ha ?_)
  rfl
theorem C_upP {pa : T_Pa} {pr : T_Pg} {y y2 k : Nat} (hy0 : 1 ≤ y ∧ y ≤ 4) (hy2 : 1 ≤ y2 ∧ y2 ≤ 4) (hk : k ≤ 6) (h1 : Pa_done pa = NN 0) (h2 : Pa_down pa = NN 0) (hy : f_Pa_whyTrailerWaits pa pr = some (NN y)) (ha : f_Pa_whyLeaderWaits pa pr = some (NN y2)) (hp : f_Pa_alarmOfPoint pa = some (NN k)) :
    f_Pa_upcoming pa pr = some (NN (if k = 0 then 2 else 10 + k)) := by
  unfold f_Pa_upcoming
  by_cases q : k = 0
  · repeat first | (with_reducible refine s_nmj1 ?_) | (with_reducible refine s_nmj2 ?_) | ((with_reducible refine s_nm ?_); intro y_ hy_; (try simp (disch := omega) only [n_lit, n_add, n_mul, n_sub, n_tn, n_ltT, n_ltF, n_leT, n_leF, n_eqT, n_eqF, n_div, n_ixT, n_ixF, n_not, n_md, n_dec, n_and1, n_and3, n_and7, n_and15, n_and31, n_and63, Nat.mod_eq_of_lt, Nat.zero_add, Nat.add_zero, Nat.zero_mul, Nat.sub_zero, not_false_eq_true, not_true_eq_false, upd_at, upd_ne, h1, h2] at hy_); subst hy_) | ((with_reducible refine s_pos ?_ ?_); · simp (disch := omega) only [n_lit, n_add, n_mul, n_sub, n_tn, n_ltT, n_ltF, n_leT, n_leF, n_eqT, n_eqF, n_div, n_ixT, n_ixF, n_not, n_md, n_dec, n_and1, n_and3, n_and7, n_and15, n_and31, n_and63, Nat.mod_eq_of_lt, Nat.zero_add, Nat.add_zero, Nat.zero_mul, Nat.sub_zero, not_false_eq_true, not_true_eq_false, upd_at, upd_ne, h1, h2]) | ((with_reducible refine s_neg ?_ ?_); · simp (disch := omega) only [n_lit, n_add, n_mul, n_sub, n_tn, n_ltT, n_ltF, n_leT, n_leF, n_eqT, n_eqF, n_div, n_ixT, n_ixF, n_not, n_md, n_dec, n_and1, n_and3, n_and7, n_and15, n_and31, n_and63, Nat.mod_eq_of_lt, Nat.zero_add, Nat.add_zero, Nat.zero_mul, Nat.sub_zero, not_false_eq_true, not_true_eq_false, upd_at, upd_ne, h1, h2])  | (with_reducible refine s_bd hy ?_) | (with_reducible refine s_bd ha ?_) | (with_reducible refine s_bd hp ?_)
    rw [if_pos q]; rfl
  · repeat first | (with_reducible refine s_nmj1 ?_) | (with_reducible refine s_nmj2 ?_) | ((with_reducible refine s_nm ?_); intro y_ hy_; (try simp (disch := omega) only [n_lit, n_add, n_mul, n_sub, n_tn, n_ltT, n_ltF, n_leT, n_leF, n_eqT, n_eqF, n_div, n_ixT, n_ixF, n_not, n_md, n_dec, n_and1, n_and3, n_and7, n_and15, n_and31, n_and63, Nat.mod_eq_of_lt, Nat.zero_add, Nat.add_zero, Nat.zero_mul, Nat.sub_zero, not_false_eq_true, not_true_eq_false, upd_at, upd_ne, h1, h2] at hy_); subst hy_) | ((with_reducible refine s_pos ?_ ?_); · simp (disch := omega) only [n_lit, n_add, n_mul, n_sub, n_tn, n_ltT, n_ltF, n_leT, n_leF, n_eqT, n_eqF, n_div, n_ixT, n_ixF, n_not, n_md, n_dec, n_and1, n_and3, n_and7, n_and15, n_and31, n_and63, Nat.mod_eq_of_lt, Nat.zero_add, Nat.add_zero, Nat.zero_mul, Nat.sub_zero, not_false_eq_true, not_true_eq_false, upd_at, upd_ne, h1, h2]) | ((with_reducible refine s_neg ?_ ?_); · simp (disch := omega) only [n_lit, n_add, n_mul, n_sub, n_tn, n_ltT, n_ltF, n_leT, n_leF, n_eqT, n_eqF, n_div, n_ixT, n_ixF, n_not, n_md, n_dec, n_and1, n_and3, n_and7, n_and15, n_and31, n_and63, Nat.mod_eq_of_lt, Nat.zero_add, Nat.add_zero, Nat.zero_mul, Nat.sub_zero, not_false_eq_true, not_true_eq_false, upd_at, upd_ne, h1, h2])  | (with_reducible refine s_bd hy ?_) | (with_reducible refine s_bd ha ?_) | (with_reducible refine s_bd hp ?_)
    rw [if_neg q, ← n_add]; rfl
def stN (pa : T_Pa) : Nat := (St_steps (Pa_leader pa)).toNatClampNeg + (St_steps (Pa_trailer pa)).toNatClampNeg
/-- what a TURN of a kind is -/
def KD (pa pa' : T_Pa) (S R : Nat → Int32) (kind : Nat) : Prop :=
  (kind ≤ 1 ∧ R 220 = S 220 ∧ R 221 = S 221 ∧ stN pa' = stN pa + 1) ∨ (kind = 2 ∧ R 220 = S 220 + NN 1 ∧ R 221 = S 221) ∨ (∃ k, 1 ≤ k ∧ k ≤ 6 ∧ kind = 10 + k ∧ R 220 = S 220 ∧ R 221 = S 221 + NN 1 ∧ R 233 = NN k)
theorem IS_of {pr : T_Pg} {v : T_M} {n p c : Nat} (h : RCd pr v n) (hp : p < 64) (hc : Pg_code pr p = NN c) (h17 : c ≤ 17) (h0 : c ≠ 0) : ∃ a b d, p < n ∧ IS pr v p c a b d := by
  obtain ⟨h1, h2⟩ := IS_sort h hp hc h17 h0
  obtain ⟨-, -, -, -, i1⟩ := h
  obtain ⟨c', a, b, d, hI⟩ := i1 p h1
  have : c = c' := n_inj (by omega) (by have := hI.1.1; omega) (hc.symm.trans hI.2.1)
  subst this
  exact ⟨a, b, d, h1, hI⟩
