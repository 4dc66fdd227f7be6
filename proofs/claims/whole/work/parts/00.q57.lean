/-! the beginning -/
def RCf (pr : T_Pg) (m : T_M) : Prop := ∃ n sp lo hi z0 z1 z2 tr se, RCd pr m n ∧ (Pg_rules pr 0 = NN sp ∧ M_number (M_cd m) 0 = NN sp ∧ 1 ≤ sp ∧ sp ≤ 40) ∧ (Pg_rules pr 1 = NN lo ∧ M_number (M_cd m) 1 = NN lo ∧ lo ≤ 8) ∧ (Pg_rules pr 2 = NN hi ∧ M_number (M_cd m) 2 = NN hi ∧ hi ≤ 9) ∧
  (Pg_rules pr 3 = NN z0 ∧ M_number (M_cd m) 3 = NN z0 ∧ z0 ≤ 8) ∧ (Pg_rules pr 4 = NN z1 ∧ M_number (M_cd m) 4 = NN z1 ∧ z1 ≤ 8) ∧ (Pg_rules pr 5 = NN z2 ∧ M_number (M_cd m) 5 = NN z2 ∧ z2 ≤ 8) ∧
  (Pg_rules pr 6 = NN tr ∧ M_number (M_cd m) 6 = NN tr ∧ 1 ≤ tr ∧ tr ≤ 9) ∧ (Pg_rules pr 7 = NN se ∧ M_number (M_cd m) 7 = NN se ∧ se < 100000) ∧ (∀ a, a < 32 → Pg_data pr a = M_data (M_cd m) a)
def mZ (m : T_M) (row : Nat → Int32) (sp : Int32) (sz : Nat → Int32) (pt : Int32) (ex : T_Mx) (al : T_Ml) (th : Int32) : T_M := ((M_tp m), (M_rd m), (M_lf m), (M_cd m), (row, sp, sz, pt), ex, (M_im m), al, th)
theorem M_asTold1 (v : T_M) : ∃ sz, f_M_asTold v = some (mZ v (M_s (M_rn v)) (M_number (M_cd v) 0) sz (M_placeThen (M_rn v)) (M_ex v) (M_al v) (M_thrown v)) ∧ ∀ k, k < 3 → sz k = M_number (M_cd v) (3 + k) := by
  obtain ⟨s', e, h⟩ := loop_from (f_M_asTold_L12 v (fun (f4 : (Nat → Int32)) => (some ((M_tp v), (M_rd v), (M_lf v), (M_cd v), ((M_s (M_rn v)), M_number (M_cd v) 0, f4, (M_placeThen (M_rn v))), (M_ex v), (M_im v), (M_al v), (M_thrown v)))))
    (fun sz => some (mZ v (M_s (M_rn v)) (M_number (M_cd v) 0) sz (M_placeThen (M_rn v)) (M_ex v) (M_al v) (M_thrown v))) (fun x s => ∀ k, k < x → s k = M_number (M_cd v) (3 + k)) 0 3 (n := LF) (s := M_sizeNow (M_rn v))
    (by
      intro n x s _ hx hI
      refine ⟨upd s x (M_number (M_cd v) (3 + x)), ?_, ?_⟩
      · simp only [f_M_asTold_L12]
        simp (disch := omega) only [nm, bd_some, bd2_some, bd3_some, n_lit, n_add, n_mul, n_sub, n_tn, n_ltT, n_ltF, n_leT, n_leF, n_eqT, n_eqF, n_div, n_ixT, n_ixF, n_not, n_md, n_dec, n_and1, n_and3, n_and7, n_and15, n_and31, n_and63, Nat.mod_eq_of_lt, Nat.zero_add, Nat.add_zero, Nat.zero_mul, Nat.sub_zero, not_false_eq_true, not_true_eq_false, if_pos, if_neg, false_or, or_false, not_false_eq_true, Nat.not_le, Nat.not_lt, if_true, if_false, Nat.zero_add, Nat.add_zero, Nat.zero_mul, Nat.sub_zero, upd_at, upd_ne]
      · intro k hk
        by_cases q : k = x
        · subst q; exact upd_at rfl
        · exact (upd_ne q).trans (hI k (by omega)))
    (fun n s _ => by
      simp only [f_M_asTold_L12]
      simp (disch := omega) only [nm, bd_some, bd2_some, bd3_some, n_lit, n_add, n_mul, n_sub, n_tn, n_ltT, n_ltF, n_leT, n_leF, n_eqT, n_eqF, n_div, n_ixT, n_ixF, n_not, n_md, n_dec, n_and1, n_and3, n_and7, n_and15, n_and31, n_and63, Nat.mod_eq_of_lt, Nat.zero_add, Nat.add_zero, Nat.zero_mul, Nat.sub_zero, not_false_eq_true, not_true_eq_false, if_pos, if_neg, false_or, or_false, not_false_eq_true, Nat.not_le, Nat.not_lt, if_true, if_false, Nat.zero_add, Nat.add_zero, Nat.zero_mul, Nat.sub_zero, upd_at, upd_ne]
      rfl) (by omega) (lf_big (by omega)) (fun k hk => by omega)
  refine ⟨s', ?_, h⟩
  unfold f_M_asTold
  repeat first | (with_reducible refine s_nmj1 ?_) | (with_reducible refine s_nmj2 ?_) | ((with_reducible refine s_nm ?_); intro y_ hy_; (try simp (disch := omega) only [n_lit, n_add, n_mul, n_sub, n_tn, n_ltT, n_ltF, n_leT, n_leF, n_eqT, n_eqF, n_div, n_ixT, n_ixF, n_not, n_md, n_dec, n_and1, n_and3, n_and7, n_and15, n_and31, n_and63, Nat.mod_eq_of_lt, Nat.zero_add, Nat.add_zero, Nat.zero_mul, Nat.sub_zero, not_false_eq_true, not_true_eq_false, upd_at, upd_ne] at hy_); subst hy_) | ((with_reducible refine s_pos ?_ ?_); · simp (disch := omega) only [n_lit, n_add, n_mul, n_sub, n_tn, n_ltT, n_ltF, n_leT, n_leF, n_eqT, n_eqF, n_div, n_ixT, n_ixF, n_not, n_md, n_dec, n_and1, n_and3, n_and7, n_and15, n_and31, n_and63, Nat.mod_eq_of_lt, Nat.zero_add, Nat.add_zero, Nat.zero_mul, Nat.sub_zero, not_false_eq_true, not_true_eq_false, upd_at, upd_ne]) | ((with_reducible refine s_neg ?_ ?_); · simp (disch := omega) only [n_lit, n_add, n_mul, n_sub, n_tn, n_ltT, n_ltF, n_leT, n_leF, n_eqT, n_eqF, n_div, n_ixT, n_ixF, n_not, n_md, n_dec, n_and1, n_and3, n_and7, n_and15, n_and31, n_and63, Nat.mod_eq_of_lt, Nat.zero_add, Nat.add_zero, Nat.zero_mul, Nat.sub_zero, not_false_eq_true, not_true_eq_false, upd_at, upd_ne]) 
  exact e
def bgRow (m : T_M) (row : Nat → Int32) : Prop := ∀ j, j < 314 → row j = if 146 ≤ j ∧ j < 178 then M_data (M_cd m) (j - 146) else NN 0
theorem M_begins1 (v : T_M) : ∃ row sz, f_M_begins v = some (mZ v row (M_number (M_cd v) 0) sz (M_placeThen (M_rn v)) (M_ex v) (M_al v) (M_thrown v)) ∧ (∀ k, k < 3 → sz k = M_number (M_cd v) (3 + k)) ∧ bgRow v row := by
  obtain ⟨sz, eA, hA⟩ := M_asTold1 v
  obtain ⟨V, hV⟩ : ∃ V, V = mZ v (M_s (M_rn v)) (M_number (M_cd v) 0) sz (M_placeThen (M_rn v)) (M_ex v) (M_al v) (M_thrown v) := ⟨_, rfl⟩
  have hcd : M_cd V = M_cd v := by rw [hV]; rfl
  obtain ⟨f1, e1, h1⟩ := loop_from (f_M_begins_L6 (fun (f5 : (Nat → Int32)) => (f_M_begins_L28 V (fun (f12 : (Nat → Int32)) => (some ((M_tp V), (M_rd V), (M_lf V), (M_cd V), (f12, (M_spanNow (M_rn V)), (M_sizeNow (M_rn V)), (M_placeThen (M_rn V))), (M_ex V), (M_im V), (M_al V), (M_thrown V)))) LF (0 : Int32) f5)))
    (fun f5 => (f_M_begins_L28 V (fun (f12 : (Nat → Int32)) => (some ((M_tp V), (M_rd V), (M_lf V), (M_cd V), (f12, (M_spanNow (M_rn V)), (M_sizeNow (M_rn V)), (M_placeThen (M_rn V))), (M_ex V), (M_im V), (M_al V), (M_thrown V)))) LF (0 : Int32) f5)) (fun x s => ∀ j, j < x → s j = NN 0) 0 314 (n := LF) (s := M_s (M_rn v))
    (by
      intro n x s _ hx hI
      refine ⟨upd s x (NN 0), ?_, ?_⟩
      · simp only [f_M_begins_L6]
        simp (disch := omega) only [nm, bd_some, bd2_some, bd3_some, n_lit, n_add, n_mul, n_sub, n_tn, n_ltT, n_ltF, n_leT, n_leF, n_eqT, n_eqF, n_div, n_ixT, n_ixF, n_not, n_md, n_dec, n_and1, n_and3, n_and7, n_and15, n_and31, n_and63, Nat.mod_eq_of_lt, Nat.zero_add, Nat.add_zero, Nat.zero_mul, Nat.sub_zero, not_false_eq_true, not_true_eq_false, if_pos, if_neg, false_or, or_false, not_false_eq_true, Nat.not_le, Nat.not_lt, if_true, if_false, Nat.zero_add, Nat.add_zero, Nat.zero_mul, Nat.sub_zero, upd_at, upd_ne]
      · intro k hk
        by_cases q : k = x
        · subst q; exact upd_at rfl
        · exact (upd_ne q).trans (hI k (by omega)))
    (fun n s _ => by
      simp only [f_M_begins_L6]
      simp (disch := omega) only [nm, bd_some, bd2_some, bd3_some, n_lit, n_add, n_mul, n_sub, n_tn, n_ltT, n_ltF, n_leT, n_leF, n_eqT, n_eqF, n_div, n_ixT, n_ixF, n_not, n_md, n_dec, n_and1, n_and3, n_and7, n_and15, n_and31, n_and63, Nat.mod_eq_of_lt, Nat.zero_add, Nat.add_zero, Nat.zero_mul, Nat.sub_zero, not_false_eq_true, not_true_eq_false, if_pos, if_neg, false_or, or_false, not_false_eq_true, Nat.not_le, Nat.not_lt, if_true, if_false, Nat.zero_add, Nat.add_zero, Nat.zero_mul, Nat.sub_zero, upd_at, upd_ne]
      ) (by omega) (lf_big (by omega)) (fun k hk => by omega)
  obtain ⟨f2, e2, h2⟩ := loop_from (f_M_begins_L28 V (fun (f12 : (Nat → Int32)) => (some ((M_tp V), (M_rd V), (M_lf V), (M_cd V), (f12, (M_spanNow (M_rn V)), (M_sizeNow (M_rn V)), (M_placeThen (M_rn V))), (M_ex V), (M_im V), (M_al V), (M_thrown V)))))
    (fun (f12 : (Nat → Int32)) => (some ((M_tp V), (M_rd V), (M_lf V), (M_cd V), (f12, (M_spanNow (M_rn V)), (M_sizeNow (M_rn V)), (M_placeThen (M_rn V))), (M_ex V), (M_im V), (M_al V), (M_thrown V)))) (fun x s => ∀ j, j < 314 → s j = if 146 ≤ j ∧ j < 146 + x then M_data (M_cd v) (j - 146) else NN 0) 0 32 (n := LF) (s := f1)
    (by
      intro n x s _ hx hI
      refine ⟨upd s (146 + x) (M_data (M_cd v) x), ?_, ?_⟩
      · simp only [f_M_begins_L28]
        simp (disch := omega) only [nm, bd_some, bd2_some, bd3_some, n_lit, n_add, n_mul, n_sub, n_tn, n_ltT, n_ltF, n_leT, n_leF, n_eqT, n_eqF, n_div, n_ixT, n_ixF, n_not, n_md, n_dec, n_and1, n_and3, n_and7, n_and15, n_and31, n_and63, Nat.mod_eq_of_lt, Nat.zero_add, Nat.add_zero, Nat.zero_mul, Nat.sub_zero, not_false_eq_true, not_true_eq_false, if_pos, if_neg, false_or, or_false, not_false_eq_true, Nat.not_le, Nat.not_lt, if_true, if_false, Nat.zero_add, Nat.add_zero, Nat.zero_mul, Nat.sub_zero, upd_at, upd_ne, hcd]
      · intro j hj
        by_cases q : j = 146 + x
        · rw [upd_at q, if_pos (by omega)]; exact congrArg (M_data (M_cd v)) (by omega)
        · rw [upd_ne q, hI j hj]
          have : (146 ≤ j ∧ j < 146 + (x + 1)) ↔ (146 ≤ j ∧ j < 146 + x) := by omega
          simp only [this])
    (fun n s _ => by
      simp only [f_M_begins_L28]
      simp (disch := omega) only [nm, bd_some, bd2_some, bd3_some, n_lit, n_add, n_mul, n_sub, n_tn, n_ltT, n_ltF, n_leT, n_leF, n_eqT, n_eqF, n_div, n_ixT, n_ixF, n_not, n_md, n_dec, n_and1, n_and3, n_and7, n_and15, n_and31, n_and63, Nat.mod_eq_of_lt, Nat.zero_add, Nat.add_zero, Nat.zero_mul, Nat.sub_zero, not_false_eq_true, not_true_eq_false, if_pos, if_neg, false_or, or_false, not_false_eq_true, Nat.not_le, Nat.not_lt, if_true, if_false, Nat.zero_add, Nat.add_zero, Nat.zero_mul, Nat.sub_zero, upd_at, upd_ne]
      ) (by omega) (lf_big (by omega)) (fun j hj => by rw [h1 j hj, if_neg (by omega)])
  refine ⟨f2, sz, ?_, hA, h2⟩
  unfold f_M_begins
  rw [← hV] at eA
  with_reducible refine s_bd eA ?_
  have hs : M_s (M_rn V) = M_s (M_rn v) := by rw [hV]; rfl
  rw [hs]
  refine e1.trans (e2.trans ?_)
  rw [hV]
  rfl
def CL (st : T_St) : Prop := St_place st = NN 0 ∧ St_steps st = NN 0 ∧ (∀ k, k < 8 → St_registers st k = NN 0 ∧ St_stuckMask st k = NN 0 ∧ St_stuckOnes st k = NN 0) ∧ ∀ k, k < 4 → St_floats st k = NN 0
theorem C_clear (v : T_St) : ∃ st, f_St_clear v = some st ∧ CL st := by
  obtain ⟨s', e, h⟩ := loop_from (fun n i (s : (Nat → Int32) × (Nat → Int32)) => f_St_clear_L2 (fun (f4 : (Nat → Int32)) (f5 : (Nat → Int32)) => (bd (f_St_loosen (f5, f4, (St_stuckMask v), (St_stuckOnes v), (St_place v), (St_steps v))) fun (v11 : T_St) => (some ((St_registers v11), (St_floats v11), (St_stuckMask v11), (St_stuckOnes v11), (0 : Int32), (0 : Int32))))) n i s.1 s.2)
    (fun s => (bd (f_St_loosen (s.2, s.1, (St_stuckMask v), (St_stuckOnes v), (St_place v), (St_steps v))) fun (v11 : T_St) => (some ((St_registers v11), (St_floats v11), (St_stuckMask v11), (St_stuckOnes v11), (0 : Int32), (0 : Int32))))) (fun x s => (∀ k, k < x → s.2 k = NN 0) ∧ ∀ k, k < 4 → k < x → s.1 k = NN 0) 0 8 (n := LF) (s := (St_floats v, St_registers v))
    (by
      intro n x s _ hx hI
      refine ⟨(upd s.1 (x % 4) (NN 0), upd s.2 x (NN 0)), ?_, ?_, ?_⟩
      · simp only [f_St_clear_L2]
        simp (disch := omega) only [nm, bd_some, bd2_some, bd3_some, n_lit, n_add, n_mul, n_sub, n_tn, n_ltT, n_ltF, n_leT, n_leF, n_eqT, n_eqF, n_div, n_ixT, n_ixF, n_not, n_md, n_dec, n_and1, n_and3, n_and7, n_and15, n_and31, n_and63, Nat.mod_eq_of_lt, Nat.zero_add, Nat.add_zero, Nat.zero_mul, Nat.sub_zero, not_false_eq_true, not_true_eq_false, if_pos, if_neg, false_or, or_false, not_false_eq_true, Nat.not_le, Nat.not_lt, if_true, if_false, Nat.zero_add, Nat.add_zero, Nat.zero_mul, Nat.sub_zero, upd_at, upd_ne]
      · intro k hk
        by_cases q : k = x
        · subst q; exact upd_at rfl
        · exact (upd_ne q).trans (hI.1 k (by omega))
      · intro k hk4 hk
        by_cases q : k = x % 4
        · exact upd_at q
        · exact (upd_ne q).trans (hI.2 k hk4 (by omega)))
    (fun n s _ => by
      simp only [f_St_clear_L2]
      simp (disch := omega) only [nm, bd_some, bd2_some, bd3_some, n_lit, n_add, n_mul, n_sub, n_tn, n_ltT, n_ltF, n_leT, n_leF, n_eqT, n_eqF, n_div, n_ixT, n_ixF, n_not, n_md, n_dec, n_and1, n_and3, n_and7, n_and15, n_and31, n_and63, Nat.mod_eq_of_lt, Nat.zero_add, Nat.add_zero, Nat.zero_mul, Nat.sub_zero, not_false_eq_true, not_true_eq_false, if_pos, if_neg, false_or, or_false, not_false_eq_true, Nat.not_le, Nat.not_lt, if_true, if_false, Nat.zero_add, Nat.add_zero, Nat.zero_mul, Nat.sub_zero, upd_at, upd_ne]
      ) (by omega) (lf_big (by omega)) ⟨fun k hk => by omega, fun k hk hk2 => by omega⟩
  obtain ⟨m, o, e2, h2⟩ := C_loosen (s'.2, s'.1, (St_stuckMask v), (St_stuckOnes v), (St_place v), (St_steps v))
  refine ⟨(s'.2, s'.1, m, o, 0, 0), ?_, rfl, rfl, fun k hk => ⟨h.1 k hk, (h2 k hk).1, (h2 k hk).2⟩, fun k hk => h.2 k hk (by omega)⟩
  unfold f_St_clear
  refine Eq.trans e ?_
  with_reducible refine s_bd e2 ?_
  rfl
def BEG (pa : T_Pa) (pr : T_Pg) : Prop := (∀ k, k < 8 → Pa_rules pa k = Pg_rules pr k) ∧ CL (Pa_leader pa) ∧ CL (Pa_trailer pa) ∧ CL (Pa_point pa) ∧
  (Qu_firstLoad (Pa_queues pa) = NN 0 ∧ Qu_loads (Pa_queues pa) = NN 0 ∧ Qu_firstBranch (Pa_queues pa) = NN 0 ∧ Qu_branches (Pa_queues pa) = NN 0 ∧ Qu_held (Pa_queues pa) = NN 0 ∧ Qu_comparedHeld (Pa_queues pa) = NN 0) ∧
  ((∀ a, a < 32 → Ou_memory (Pa_outside pa) a = Pg_data pr a) ∧ Ou_stores (Pa_outside pa) = NN 0 ∧ Ou_outputs (Pa_outside pa) = NN 0) ∧
  (Ta_turns (Pa_tally pa) = NN 0 ∧ Ta_points (Pa_tally pa) = NN 0 ∧ Ta_alarms (Pa_tally pa) = NN 0 ∧ Ta_alarmsSincePoint (Pa_tally pa) = NN 0 ∧ Ta_greatestAhead (Pa_tally pa) = NN 0 ∧ Ta_aheadSum (Pa_tally pa) = NN 0 ∧ Ta_leaderTurns (Pa_tally pa) = NN 0 ∧ Ta_trailerTurns (Pa_tally pa) = NN 0 ∧ Ta_comparedSteps (Pa_tally pa) = NN 0) ∧
  Pa_done pa = NN 0 ∧ Pa_down pa = NN 0
theorem C_begin (old : T_Pa) (pr : T_Pg) : ∃ pa, f_Pa_begin old pr = some pa ∧ BEG pa pr := by
  obtain ⟨s1, e1, h1⟩ := C_clear (Pa_leader old)
  obtain ⟨s2, e2, h2⟩ := C_clear (Pa_trailer old)
  obtain ⟨s3, e3, h3⟩ := C_clear (Pa_point old)
  obtain ⟨qu, hqu⟩ : ∃ qu : T_Qu, qu = ((Qu_loadAddress (Pa_queues old)), (Qu_loadWord (Pa_queues old)), (Qu_branch (Pa_queues old)), (Qu_heldAddress (Pa_queues old)), (Qu_heldWord (Pa_queues old)), (Qu_besideAddress (Pa_queues old)), (Qu_besideWord (Pa_queues old)), (0 : Int32), (0 : Int32), (0 : Int32), (0 : Int32), (0 : Int32), (0 : Int32)) := ⟨_, rfl⟩
  obtain ⟨ou, hou⟩ : ∃ ou : T_Ou, ou = (va_cpy (Pg_data pr) (Ou_memory (Pa_outside old)) 0 0 32, (Ou_output (Pa_outside old)), (Ou_leftAddress (Pa_outside old)), (Ou_leftWord (Pa_outside old)), (Ou_leftPoint (Pa_outside old)), (0 : Int32), (0 : Int32)) := ⟨_, rfl⟩
  obtain ⟨ta, hta⟩ : ∃ ta : T_Ta, ta = ((Ta_alarmSort (Pa_tally old)), (Ta_alarmTurn (Pa_tally old)), (Ta_alarmLeaderSteps (Pa_tally old)), (Ta_alarmTrailerSteps (Pa_tally old)), (0 : Int32), (0 : Int32), (0 : Int32), (0 : Int32), (0 : Int32), (0 : Int32), (0 : Int32), (0 : Int32), (0 : Int32)) := ⟨_, rfl⟩
  have eQ : f_Qu_clear (Pa_queues old) = some qu := by rw [hqu]; rfl
  have eO : f_Ou_begin (Pa_outside old) (Pg_data pr) = some ou := by
    rw [hou]; unfold f_Ou_begin
    repeat first | (with_reducible refine s_nmj1 ?_) | (with_reducible refine s_nmj2 ?_) | ((with_reducible refine s_nm ?_); intro y_ hy_; (try simp (disch := omega) only [n_lit, n_add, n_mul, n_sub, n_tn, n_ltT, n_ltF, n_leT, n_leF, n_eqT, n_eqF, n_div, n_ixT, n_ixF, n_not, n_md, n_dec, n_and1, n_and3, n_and7, n_and15, n_and31, n_and63, Nat.mod_eq_of_lt, Nat.zero_add, Nat.add_zero, Nat.zero_mul, Nat.sub_zero, not_false_eq_true, not_true_eq_false, upd_at, upd_ne] at hy_); subst hy_) | ((with_reducible refine s_pos ?_ ?_); · simp (disch := omega) only [n_lit, n_add, n_mul, n_sub, n_tn, n_ltT, n_ltF, n_leT, n_leF, n_eqT, n_eqF, n_div, n_ixT, n_ixF, n_not, n_md, n_dec, n_and1, n_and3, n_and7, n_and15, n_and31, n_and63, Nat.mod_eq_of_lt, Nat.zero_add, Nat.add_zero, Nat.zero_mul, Nat.sub_zero, not_false_eq_true, not_true_eq_false, upd_at, upd_ne]) | ((with_reducible refine s_neg ?_ ?_); · simp (disch := omega) only [n_lit, n_add, n_mul, n_sub, n_tn, n_ltT, n_ltF, n_leT, n_leF, n_eqT, n_eqF, n_div, n_ixT, n_ixF, n_not, n_md, n_dec, n_and1, n_and3, n_and7, n_and15, n_and31, n_and63, Nat.mod_eq_of_lt, Nat.zero_add, Nat.add_zero, Nat.zero_mul, Nat.sub_zero, not_false_eq_true, not_true_eq_false, upd_at, upd_ne]) 
    rfl
  have eT : f_Ta_clear (Pa_tally old) = some ta := by rw [hta]; rfl
  refine ⟨(va_cpy (Pg_rules pr) (Pa_rules old) 0 0 8, s1, s2, s3, qu, ou, ta, NN 0, NN 0), ?_, fun k hk => cpy_in hk, h1, h2, h3, ?_, ?_, ?_, rfl, rfl⟩
  · unfold f_Pa_begin
    repeat first | (with_reducible refine s_nmj1 ?_) | (with_reducible refine s_nmj2 ?_) | ((with_reducible refine s_nm ?_); intro y_ hy_; (try simp (disch := omega) only [n_lit, n_add, n_mul, n_sub, n_tn, n_ltT, n_ltF, n_leT, n_leF, n_eqT, n_eqF, n_div, n_ixT, n_ixF, n_not, n_md, n_dec, n_and1, n_and3, n_and7, n_and15, n_and31, n_and63, Nat.mod_eq_of_lt, Nat.zero_add, Nat.add_zero, Nat.zero_mul, Nat.sub_zero, not_false_eq_true, not_true_eq_false, upd_at, upd_ne] at hy_); subst hy_) | ((with_reducible refine s_pos ?_ ?_); · simp (disch := omega) only [n_lit, n_add, n_mul, n_sub, n_tn, n_ltT, n_ltF, n_leT, n_leF, n_eqT, n_eqF, n_div, n_ixT, n_ixF, n_not, n_md, n_dec, n_and1, n_and3, n_and7, n_and15, n_and31, n_and63, Nat.mod_eq_of_lt, Nat.zero_add, Nat.add_zero, Nat.zero_mul, Nat.sub_zero, not_false_eq_true, not_true_eq_false, upd_at, upd_ne]) | ((with_reducible refine s_neg ?_ ?_); · simp (disch := omega) only [n_lit, n_add, n_mul, n_sub, n_tn, n_ltT, n_ltF, n_leT, n_leF, n_eqT, n_eqF, n_div, n_ixT, n_ixF, n_not, n_md, n_dec, n_and1, n_and3, n_and7, n_and15, n_and31, n_and63, Nat.mod_eq_of_lt, Nat.zero_add, Nat.add_zero, Nat.zero_mul, Nat.sub_zero, not_false_eq_true, not_true_eq_false, upd_at, upd_ne])  | (with_reducible refine s_bd e1 ?_) | (with_reducible refine s_bd e2 ?_) | (with_reducible refine s_bd e3 ?_) | (with_reducible refine s_bd eQ ?_) | (with_reducible refine s_bd eO ?_) | (with_reducible refine s_bd eT ?_)
    rfl
  · simp only [Pa_rules_mk, Pa_leader_mk, Pa_trailer_mk, Pa_point_mk, Pa_queues_mk, Pa_outside_mk, Pa_tally_mk, Pa_done_mk, Pa_down_mk]
    rw [hqu]; exact ⟨rfl, rfl, rfl, rfl, rfl, rfl⟩
  · simp only [Pa_rules_mk, Pa_leader_mk, Pa_trailer_mk, Pa_point_mk, Pa_queues_mk, Pa_outside_mk, Pa_tally_mk, Pa_done_mk, Pa_down_mk]
    rw [hou]; exact ⟨fun a ha => cpy_in ha, rfl, rfl⟩
  · simp only [Pa_rules_mk, Pa_leader_mk, Pa_trailer_mk, Pa_point_mk, Pa_queues_mk, Pa_outside_mk, Pa_tally_mk, Pa_done_mk, Pa_down_mk]
    rw [hta]; exact ⟨rfl, rfl, rfl, rfl, rfl, rfl, rfl, rfl, rfl⟩
theorem RSt_begin {w : Nat} {st : T_St} {row : Nat → Int32} (hw : w < 2) (h : CL st) (hr : ∀ j, j < 146 → row j = NN 0) : RSt w st row 0 0 := by
  obtain ⟨h1, h2, h3, h4⟩ := h
  refine ⟨⟨h1, hr _ (by omega), by omega⟩, ⟨h2, hr _ (by omega), by omega⟩, fun k hk => (hr _ (by omega)).trans (h3 k hk).1.symm, fun k hk => (hr _ (by omega)).trans (h4 k hk).symm, fun k hk => (hr _ (by omega)).trans (h3 k hk).2.1.symm, fun k hk => (hr _ (by omega)).trans (h3 k hk).2.2.symm, fun k hk => ?_⟩
  rw [(h3 k hk).1, (h3 k hk).2.1, (h3 k hk).2.2]
  exact ⟨and0 _, and0 _⟩
/-- THE PAIR as a TEXT begins, by rules that may be told otherwise -/
theorem RPa_begin {pa : T_Pa} {pr : T_Pg} {m : T_M} {n sp lo hi z0 z1 z2 tr : Nat} {ru : Nat → Int32} (h : BEG pa pr) (hcd : RCd pr m n) (hru : RRu ru m sp lo hi z0 z1 z2 tr) (hd : ∀ a, a < 32 → Pg_data pr a = M_data (M_cd m) a) (hb : bgRow m (M_s (M_rn m))) :
    RPa 0 (ru, Pa_leader pa, Pa_trailer pa, Pa_point pa, Pa_queues pa, Pa_outside pa, Pa_tally pa, Pa_done pa, Pa_down pa) pr m := by
  obtain ⟨b1, b2, b3, b4, ⟨q1, q2, q3, q4, q5, q6⟩, ⟨o1, o2, o3⟩, ⟨t1, t2, t3, t4, t5, t6, t7, t8, t9⟩, d1, d2⟩ := h
  have hz : ∀ j, j < 314 → ¬ (146 ≤ j ∧ j < 178) → M_s (M_rn m) j = NN 0 := fun j hj hj2 => (hb j hj).trans (if_neg hj2)
  have u4 := hru.2.2.2.2.2.2.2.2.1
  refine ⟨n, sp, lo, hi, z0, z1, z2, tr, 0, 0, 0, 0, 0, 0, 0, 0, 0, 0, 0, 0, 0, 0, 0, 0, 0, 0, 0, 0, hcd, hru,
    ⟨RSt_begin (by decide) b2 (fun j hj => hz j (by omega) (by omega)), RSt_begin (by decide) b3 (fun j hj => hz j (by omega) (by omega)), ⟨⟨q1, by omega⟩, ⟨q2, hz _ (by omega) (by omega), by omega⟩, fun k hk => by omega⟩, ⟨⟨q3, by omega⟩, ⟨q4, hz _ (by omega) (by omega), by omega⟩, fun k hk => by omega⟩, ⟨⟨q5, hz _ (by omega) (by omega), by omega⟩, ⟨q6, hz _ (by omega) (by omega), by omega⟩, fun k hk => by omega, fun k hk => by omega⟩, Nat.le_refl _⟩,
    ⟨b4.1, by omega, hz _ (by omega) (by omega), hz _ (by omega) (by omega), fun k hk => ⟨(hz _ (by omega) (by omega)).trans (b4.2.2.1 k hk).1.symm, (hz _ (by omega) (by omega)).trans (b4.2.2.1 k hk).1.symm⟩, fun k hk => ⟨(hz _ (by omega) (by omega)).trans (b4.2.2.2 k hk).symm, (hz _ (by omega) (by omega)).trans (b4.2.2.2 k hk).symm⟩, fun k hk => (b4.2.2.1 k hk).2⟩,
    ⟨fun a ha => ?_, ⟨o2, hz _ (by omega) (by omega), by omega⟩, ⟨o3, hz _ (by omega) (by omega), by omega⟩, hz _ (by omega) (by omega), fun k hk => by omega, hz _ (by omega) (by omega), hz _ (by omega) (by omega), fun k hk => by omega⟩,
    ⟨⟨t1, hz _ (by omega) (by omega)⟩, ⟨t2, hz _ (by omega) (by omega)⟩, ⟨t3, hz _ (by omega) (by omega)⟩, ⟨t4, hz _ (by omega) (by omega)⟩, ⟨t6, hz _ (by omega) (by omega)⟩, ⟨0, by omega, t5, hz _ (by omega) (by omega)⟩, t7.trans (hz _ (by omega) (by omega)).symm, t8.trans (hz _ (by omega) (by omega)).symm, t9.trans (hz _ (by omega) (by omega)).symm, fun k hk hk2 => by omega⟩,
    ⟨d1, hz _ (by omega) (by omega), by omega⟩, ⟨d2, hz _ (by omega) (by omega), by omega⟩, by omega⟩
  rw [hb _ (by omega), if_pos (by omega), show 146 + a - 146 = a by omega]
  exact (hd a ha).symm.trans (o1 a ha).symm
