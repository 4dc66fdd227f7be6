/-! the model's alarm and its going back -/
def emp (s : Nat → Int32) : Nat → Int32 := upd (upd (upd (upd s 86 (NN 0)) 103 (NN 0)) 112 (NN 0)) 113 (NN 0)
theorem M_empties (v : T_M) : f_M_empties v = some (mS v (emp (M_s (M_rn v)))) := by
  unfold f_M_empties
  repeat first | (with_reducible refine s_nmj1 ?_) | (with_reducible refine s_nmj2 ?_) | ((with_reducible refine s_nm ?_); intro y_ hy_; (try simp (disch := omega) only [n_lit, n_add, n_mul, n_sub, n_tn, n_ltT, n_ltF, n_leT, n_leF, n_eqT, n_eqF, n_div, n_ixT, n_ixF, n_not, n_md, n_dec, n_and1, n_and3, n_and7, n_and15, n_and31, n_and63, Nat.mod_eq_of_lt, Nat.zero_add, Nat.add_zero, Nat.zero_mul, Nat.sub_zero, not_false_eq_true, not_true_eq_false, upd_at, upd_ne] at hy_); subst hy_) | ((with_reducible refine s_pos ?_ ?_); · simp (disch := omega) only [n_lit, n_add, n_mul, n_sub, n_tn, n_ltT, n_ltF, n_leT, n_leF, n_eqT, n_eqF, n_div, n_ixT, n_ixF, n_not, n_md, n_dec, n_and1, n_and3, n_and7, n_and15, n_and31, n_and63, Nat.mod_eq_of_lt, Nat.zero_add, Nat.add_zero, Nat.zero_mul, Nat.sub_zero, not_false_eq_true, not_true_eq_false, upd_at, upd_ne]) | ((with_reducible refine s_neg ?_ ?_); · simp (disch := omega) only [n_lit, n_add, n_mul, n_sub, n_tn, n_ltT, n_ltF, n_leT, n_leF, n_eqT, n_eqF, n_div, n_ixT, n_ixF, n_not, n_md, n_dec, n_and1, n_and3, n_and7, n_and15, n_and31, n_and63, Nat.mod_eq_of_lt, Nat.zero_add, Nat.add_zero, Nat.zero_mul, Nat.sub_zero, not_false_eq_true, not_true_eq_false, upd_at, upd_ne]) 
  rfl
def aShift (s : Nat → Int32) : Nat → Int32 := fun j => if 237 ≤ j ∧ j < 265 then s (j - 4) else s j
def alRow (s : Nat → Int32) (a l t : Int32) : Nat → Int32 := upd (upd (upd (upd (upd (upd (aShift s) 233 a) 234 (s 219)) 235 l) 236 t) 221 (s 221 + NN 1)) 222 (s 222 + NN 1)
def back2 (s : Nat → Int32) : Nat → Int32 := fun j => if j < 2 then s (28 + j) else if j < 4 then NN 0 else s j
def backRow (s : Nat → Int32) : Nat → Int32 := cpR (cpR (back2 s) 4 30 16) 20 46 8
def alFin (s : Nat → Int32) (x : Int32) : Nat → Int32 := if s 222 = x then upd s 227 (NN 1) else s
set_option maxHeartbeats 2000000 in
theorem M_alarms (v : T_M) (a l t : Int32) : f_M_alarms v a l t = some (mS v (alFin (stk (emp (backRow (alRow (M_s (M_rn v)) a l t)))) (M_number (M_cd v) 6))) := by
  have k1 : ∀ k : (Nat → Int32) → Option T_M, f_M_alarms_L4 k LF (NN 31) (M_s (M_rn v)) = k (aShift (M_s (M_rn v))) := by
    intro k
    obtain ⟨s', e, h⟩ := loop_down (f_M_alarms_L4 k) k (fun x f => ∀ j, f j = if 233 + x < j ∧ j < 265 then M_s (M_rn v) (j - 4) else M_s (M_rn v) j) 4 31
      (by
        intro n x f hx0 hx hI
        refine ⟨?w, ?h1, ?h2⟩
        case h1 =>
          simp only [f_M_alarms_L4]
          repeat first | (with_reducible refine s_nmj1 ?_) | (with_reducible refine s_nmj2 ?_) | ((with_reducible refine s_nm ?_); intro y_ hy_; (try simp (disch := omega) only [n_lit, n_add, n_mul, n_sub, n_tn, n_ltT, n_ltF, n_leT, n_leF, n_eqT, n_eqF, n_div, n_ixT, n_ixF, n_not, n_md, n_dec, n_and1, n_and3, n_and7, n_and15, n_and31, n_and63, Nat.mod_eq_of_lt, Nat.zero_add, Nat.add_zero, Nat.zero_mul, Nat.sub_zero, not_false_eq_true, not_true_eq_false, upd_at, upd_ne] at hy_); subst hy_) | ((with_reducible refine s_pos ?_ ?_); · simp (disch := omega) only [n_lit, n_add, n_mul, n_sub, n_tn, n_ltT, n_ltF, n_leT, n_leF, n_eqT, n_eqF, n_div, n_ixT, n_ixF, n_not, n_md, n_dec, n_and1, n_and3, n_and7, n_and15, n_and31, n_and63, Nat.mod_eq_of_lt, Nat.zero_add, Nat.add_zero, Nat.zero_mul, Nat.sub_zero, not_false_eq_true, not_true_eq_false, upd_at, upd_ne]) | ((with_reducible refine s_neg ?_ ?_); · simp (disch := omega) only [n_lit, n_add, n_mul, n_sub, n_tn, n_ltT, n_ltF, n_leT, n_leF, n_eqT, n_eqF, n_div, n_ixT, n_ixF, n_not, n_md, n_dec, n_and1, n_and3, n_and7, n_and15, n_and31, n_and63, Nat.mod_eq_of_lt, Nat.zero_add, Nat.add_zero, Nat.zero_mul, Nat.sub_zero, not_false_eq_true, not_true_eq_false, upd_at, upd_ne]) 
          rfl
        case h2 =>
          intro j
          by_cases hj : j = 233 + x
          · subst hj
            simp (disch := omega) only [upd_at, upd_ne, if_pos, if_neg, hI]
          · rw [upd_ne hj, hI j]
            have : (233 + (x - 1) < j ∧ j < 265) ↔ (233 + x < j ∧ j < 265) := by omega
            simp only [this])
      (by
        intro n s _
        simp only [f_M_alarms_L4]
        repeat first | (with_reducible refine s_nmj1 ?_) | (with_reducible refine s_nmj2 ?_) | ((with_reducible refine s_nm ?_); intro y_ hy_; (try simp (disch := omega) only [n_lit, n_add, n_mul, n_sub, n_tn, n_ltT, n_ltF, n_leT, n_leF, n_eqT, n_eqF, n_div, n_ixT, n_ixF, n_not, n_md, n_dec, n_and1, n_and3, n_and7, n_and15, n_and31, n_and63, Nat.mod_eq_of_lt, Nat.zero_add, Nat.add_zero, Nat.zero_mul, Nat.sub_zero, not_false_eq_true, not_true_eq_false, upd_at, upd_ne] at hy_); subst hy_) | ((with_reducible refine s_pos ?_ ?_); · simp (disch := omega) only [n_lit, n_add, n_mul, n_sub, n_tn, n_ltT, n_ltF, n_leT, n_leF, n_eqT, n_eqF, n_div, n_ixT, n_ixF, n_not, n_md, n_dec, n_and1, n_and3, n_and7, n_and15, n_and31, n_and63, Nat.mod_eq_of_lt, Nat.zero_add, Nat.add_zero, Nat.zero_mul, Nat.sub_zero, not_false_eq_true, not_true_eq_false, upd_at, upd_ne]) | ((with_reducible refine s_neg ?_ ?_); · simp (disch := omega) only [n_lit, n_add, n_mul, n_sub, n_tn, n_ltT, n_ltF, n_leT, n_leF, n_eqT, n_eqF, n_div, n_ixT, n_ixF, n_not, n_md, n_dec, n_and1, n_and3, n_and7, n_and15, n_and31, n_and63, Nat.mod_eq_of_lt, Nat.zero_add, Nat.add_zero, Nat.zero_mul, Nat.sub_zero, not_false_eq_true, not_true_eq_false, upd_at, upd_ne]) 
        rfl) (by decide) 28 31 LF (M_s (M_rn v)) (by omega) (by omega) (lf_big (by decide)) (fun j => by rw [if_neg (by omega)])
    have hs : s' = aShift (M_s (M_rn v)) := funext fun j => (h j).trans (by
      simp only [aShift]
      have : (233 + (4 - 1) < j ∧ j < 265) ↔ (237 ≤ j ∧ j < 265) := by omega
      simp only [this])
    rw [← hs]
    exact e
  have k2 : ∀ (k : (Nat → Int32) → Option T_M) (f : Nat → Int32), f_M_alarms_L110 k LF (NN 0) f = k (back2 f) := by
    intro k f
    obtain ⟨s', e, h⟩ := loop_from (f_M_alarms_L110 k) k (fun x g => ∀ j, g j = if j < x then f (28 + j) else if 2 ≤ j ∧ j < 2 + x then NN 0 else f j) 0 2 (n := LF) (s := f)
      (by
        intro n x g hx0 hx hI
        refine ⟨?w2, ?h3, ?h4⟩
        case h3 =>
          simp only [f_M_alarms_L110]
          repeat first | (with_reducible refine s_nmj1 ?_) | (with_reducible refine s_nmj2 ?_) | ((with_reducible refine s_nm ?_); intro y_ hy_; (try simp (disch := omega) only [n_lit, n_add, n_mul, n_sub, n_tn, n_ltT, n_ltF, n_leT, n_leF, n_eqT, n_eqF, n_div, n_ixT, n_ixF, n_not, n_md, n_dec, n_and1, n_and3, n_and7, n_and15, n_and31, n_and63, Nat.mod_eq_of_lt, Nat.zero_add, Nat.add_zero, Nat.zero_mul, Nat.sub_zero, not_false_eq_true, not_true_eq_false, upd_at, upd_ne] at hy_); subst hy_) | ((with_reducible refine s_pos ?_ ?_); · simp (disch := omega) only [n_lit, n_add, n_mul, n_sub, n_tn, n_ltT, n_ltF, n_leT, n_leF, n_eqT, n_eqF, n_div, n_ixT, n_ixF, n_not, n_md, n_dec, n_and1, n_and3, n_and7, n_and15, n_and31, n_and63, Nat.mod_eq_of_lt, Nat.zero_add, Nat.add_zero, Nat.zero_mul, Nat.sub_zero, not_false_eq_true, not_true_eq_false, upd_at, upd_ne]) | ((with_reducible refine s_neg ?_ ?_); · simp (disch := omega) only [n_lit, n_add, n_mul, n_sub, n_tn, n_ltT, n_ltF, n_leT, n_leF, n_eqT, n_eqF, n_div, n_ixT, n_ixF, n_not, n_md, n_dec, n_and1, n_and3, n_and7, n_and15, n_and31, n_and63, Nat.mod_eq_of_lt, Nat.zero_add, Nat.add_zero, Nat.zero_mul, Nat.sub_zero, not_false_eq_true, not_true_eq_false, upd_at, upd_ne]) 
          rfl
        case h4 =>
          intro j
          by_cases hj : j = 2 + x
          · subst hj
            simp (disch := omega) only [upd_at, upd_ne, if_pos, if_neg, hI]
          · by_cases hj2 : j = x
            · subst hj2
              simp (disch := omega) only [upd_at, upd_ne, if_pos, if_neg, hI]
            · rw [upd_ne hj, upd_ne hj2, hI j]
              have : (2 ≤ j ∧ j < 2 + (x + 1)) ↔ (2 ≤ j ∧ j < 2 + x) := by omega
              have h2 : (j < x + 1) ↔ (j < x) := by omega
              simp only [this, h2])
      (by
        intro n s _
        simp only [f_M_alarms_L110]
        repeat first | (with_reducible refine s_nmj1 ?_) | (with_reducible refine s_nmj2 ?_) | ((with_reducible refine s_nm ?_); intro y_ hy_; (try simp (disch := omega) only [n_lit, n_add, n_mul, n_sub, n_tn, n_ltT, n_ltF, n_leT, n_leF, n_eqT, n_eqF, n_div, n_ixT, n_ixF, n_not, n_md, n_dec, n_and1, n_and3, n_and7, n_and15, n_and31, n_and63, Nat.mod_eq_of_lt, Nat.zero_add, Nat.add_zero, Nat.zero_mul, Nat.sub_zero, not_false_eq_true, not_true_eq_false, upd_at, upd_ne] at hy_); subst hy_) | ((with_reducible refine s_pos ?_ ?_); · simp (disch := omega) only [n_lit, n_add, n_mul, n_sub, n_tn, n_ltT, n_ltF, n_leT, n_leF, n_eqT, n_eqF, n_div, n_ixT, n_ixF, n_not, n_md, n_dec, n_and1, n_and3, n_and7, n_and15, n_and31, n_and63, Nat.mod_eq_of_lt, Nat.zero_add, Nat.add_zero, Nat.zero_mul, Nat.sub_zero, not_false_eq_true, not_true_eq_false, upd_at, upd_ne]) | ((with_reducible refine s_neg ?_ ?_); · simp (disch := omega) only [n_lit, n_add, n_mul, n_sub, n_tn, n_ltT, n_ltF, n_leT, n_leF, n_eqT, n_eqF, n_div, n_ixT, n_ixF, n_not, n_md, n_dec, n_and1, n_and3, n_and7, n_and15, n_and31, n_and63, Nat.mod_eq_of_lt, Nat.zero_add, Nat.add_zero, Nat.zero_mul, Nat.sub_zero, not_false_eq_true, not_true_eq_false, upd_at, upd_ne]) 
        rfl) (by omega) (lf_big (by decide)) (fun j => by rw [if_neg (by omega), if_neg (by omega)])
    have hs : s' = back2 f := funext fun j => (h j).trans (by
      simp only [back2]
      by_cases h1 : j < 2
      · simp (disch := omega) only [upd_at, upd_ne, if_pos, if_neg]
      · by_cases h2 : j < 4
        · simp (disch := omega) only [upd_at, upd_ne, if_pos, if_neg]
        · simp (disch := omega) only [upd_at, upd_ne, if_pos, if_neg])
    rw [← hs]
    exact e
  have k3 : ∀ (k : (Nat → Int32) → Option T_M) (f : Nat → Int32), f_M_alarms_L154 k LF (NN 0) f = k (cpR f 4 30 16) := by
    intro k f
    refine loop_cp (f_M_alarms_L154 k) k 4 30 16 f (by decide) (by decide) ?_ ?_
    · intro n x g hx
      simp only [f_M_alarms_L154]
      repeat first | (with_reducible refine s_nmj1 ?_) | (with_reducible refine s_nmj2 ?_) | ((with_reducible refine s_nm ?_); intro y_ hy_; (try simp (disch := omega) only [n_lit, n_add, n_mul, n_sub, n_tn, n_ltT, n_ltF, n_leT, n_leF, n_eqT, n_eqF, n_div, n_ixT, n_ixF, n_not, n_md, n_dec, n_and1, n_and3, n_and7, n_and15, n_and31, n_and63, Nat.mod_eq_of_lt, Nat.zero_add, Nat.add_zero, Nat.zero_mul, Nat.sub_zero, not_false_eq_true, not_true_eq_false, upd_at, upd_ne] at hy_); subst hy_) | ((with_reducible refine s_pos ?_ ?_); · simp (disch := omega) only [n_lit, n_add, n_mul, n_sub, n_tn, n_ltT, n_ltF, n_leT, n_leF, n_eqT, n_eqF, n_div, n_ixT, n_ixF, n_not, n_md, n_dec, n_and1, n_and3, n_and7, n_and15, n_and31, n_and63, Nat.mod_eq_of_lt, Nat.zero_add, Nat.add_zero, Nat.zero_mul, Nat.sub_zero, not_false_eq_true, not_true_eq_false, upd_at, upd_ne]) | ((with_reducible refine s_neg ?_ ?_); · simp (disch := omega) only [n_lit, n_add, n_mul, n_sub, n_tn, n_ltT, n_ltF, n_leT, n_leF, n_eqT, n_eqF, n_div, n_ixT, n_ixF, n_not, n_md, n_dec, n_and1, n_and3, n_and7, n_and15, n_and31, n_and63, Nat.mod_eq_of_lt, Nat.zero_add, Nat.add_zero, Nat.zero_mul, Nat.sub_zero, not_false_eq_true, not_true_eq_false, upd_at, upd_ne]) 
      rfl
    · intro n g
      simp only [f_M_alarms_L154]
      repeat first | (with_reducible refine s_nmj1 ?_) | (with_reducible refine s_nmj2 ?_) | ((with_reducible refine s_nm ?_); intro y_ hy_; (try simp (disch := omega) only [n_lit, n_add, n_mul, n_sub, n_tn, n_ltT, n_ltF, n_leT, n_leF, n_eqT, n_eqF, n_div, n_ixT, n_ixF, n_not, n_md, n_dec, n_and1, n_and3, n_and7, n_and15, n_and31, n_and63, Nat.mod_eq_of_lt, Nat.zero_add, Nat.add_zero, Nat.zero_mul, Nat.sub_zero, not_false_eq_true, not_true_eq_false, upd_at, upd_ne] at hy_); subst hy_) | ((with_reducible refine s_pos ?_ ?_); · simp (disch := omega) only [n_lit, n_add, n_mul, n_sub, n_tn, n_ltT, n_ltF, n_leT, n_leF, n_eqT, n_eqF, n_div, n_ixT, n_ixF, n_not, n_md, n_dec, n_and1, n_and3, n_and7, n_and15, n_and31, n_and63, Nat.mod_eq_of_lt, Nat.zero_add, Nat.add_zero, Nat.zero_mul, Nat.sub_zero, not_false_eq_true, not_true_eq_false, upd_at, upd_ne]) | ((with_reducible refine s_neg ?_ ?_); · simp (disch := omega) only [n_lit, n_add, n_mul, n_sub, n_tn, n_ltT, n_ltF, n_leT, n_leF, n_eqT, n_eqF, n_div, n_ixT, n_ixF, n_not, n_md, n_dec, n_and1, n_and3, n_and7, n_and15, n_and31, n_and63, Nat.mod_eq_of_lt, Nat.zero_add, Nat.add_zero, Nat.zero_mul, Nat.sub_zero, not_false_eq_true, not_true_eq_false, upd_at, upd_ne]) 
      rfl
  have k4 : ∀ (k : (Nat → Int32) → Option T_M) (f : Nat → Int32), f_M_alarms_L189 k LF (NN 0) f = k (cpR f 20 46 8) := by
    intro k f
    refine loop_cp (f_M_alarms_L189 k) k 20 46 8 f (by decide) (by decide) ?_ ?_
    · intro n x g hx
      simp only [f_M_alarms_L189]
      repeat first | (with_reducible refine s_nmj1 ?_) | (with_reducible refine s_nmj2 ?_) | ((with_reducible refine s_nm ?_); intro y_ hy_; (try simp (disch := omega) only [n_lit, n_add, n_mul, n_sub, n_tn, n_ltT, n_ltF, n_leT, n_leF, n_eqT, n_eqF, n_div, n_ixT, n_ixF, n_not, n_md, n_dec, n_and1, n_and3, n_and7, n_and15, n_and31, n_and63, Nat.mod_eq_of_lt, Nat.zero_add, Nat.add_zero, Nat.zero_mul, Nat.sub_zero, not_false_eq_true, not_true_eq_false, upd_at, upd_ne] at hy_); subst hy_) | ((with_reducible refine s_pos ?_ ?_); · simp (disch := omega) only [n_lit, n_add, n_mul, n_sub, n_tn, n_ltT, n_ltF, n_leT, n_leF, n_eqT, n_eqF, n_div, n_ixT, n_ixF, n_not, n_md, n_dec, n_and1, n_and3, n_and7, n_and15, n_and31, n_and63, Nat.mod_eq_of_lt, Nat.zero_add, Nat.add_zero, Nat.zero_mul, Nat.sub_zero, not_false_eq_true, not_true_eq_false, upd_at, upd_ne]) | ((with_reducible refine s_neg ?_ ?_); · simp (disch := omega) only [n_lit, n_add, n_mul, n_sub, n_tn, n_ltT, n_ltF, n_leT, n_leF, n_eqT, n_eqF, n_div, n_ixT, n_ixF, n_not, n_md, n_dec, n_and1, n_and3, n_and7, n_and15, n_and31, n_and63, Nat.mod_eq_of_lt, Nat.zero_add, Nat.add_zero, Nat.zero_mul, Nat.sub_zero, not_false_eq_true, not_true_eq_false, upd_at, upd_ne]) 
      rfl
    · intro n g
      simp only [f_M_alarms_L189]
      repeat first | (with_reducible refine s_nmj1 ?_) | (with_reducible refine s_nmj2 ?_) | ((with_reducible refine s_nm ?_); intro y_ hy_; (try simp (disch := omega) only [n_lit, n_add, n_mul, n_sub, n_tn, n_ltT, n_ltF, n_leT, n_leF, n_eqT, n_eqF, n_div, n_ixT, n_ixF, n_not, n_md, n_dec, n_and1, n_and3, n_and7, n_and15, n_and31, n_and63, Nat.mod_eq_of_lt, Nat.zero_add, Nat.add_zero, Nat.zero_mul, Nat.sub_zero, not_false_eq_true, not_true_eq_false, upd_at, upd_ne] at hy_); subst hy_) | ((with_reducible refine s_pos ?_ ?_); · simp (disch := omega) only [n_lit, n_add, n_mul, n_sub, n_tn, n_ltT, n_ltF, n_leT, n_leF, n_eqT, n_eqF, n_div, n_ixT, n_ixF, n_not, n_md, n_dec, n_and1, n_and3, n_and7, n_and15, n_and31, n_and63, Nat.mod_eq_of_lt, Nat.zero_add, Nat.add_zero, Nat.zero_mul, Nat.sub_zero, not_false_eq_true, not_true_eq_false, upd_at, upd_ne]) | ((with_reducible refine s_neg ?_ ?_); · simp (disch := omega) only [n_lit, n_add, n_mul, n_sub, n_tn, n_ltT, n_ltF, n_leT, n_leF, n_eqT, n_eqF, n_div, n_ixT, n_ixF, n_not, n_md, n_dec, n_and1, n_and3, n_and7, n_and15, n_and31, n_and63, Nat.mod_eq_of_lt, Nat.zero_add, Nat.add_zero, Nat.zero_mul, Nat.sub_zero, not_false_eq_true, not_true_eq_false, upd_at, upd_ne]) 
      rfl
  unfold f_M_alarms
  rw [n_lit 31, k1]
  have h219 : aShift (M_s (M_rn v)) 219 = M_s (M_rn v) 219 := by simp only [aShift]; simp (disch := omega) only [upd_at, upd_ne, if_pos, if_neg]
  have h221 : aShift (M_s (M_rn v)) 221 = M_s (M_rn v) 221 := by simp only [aShift]; simp (disch := omega) only [upd_at, upd_ne, if_pos, if_neg]
  have h222 : aShift (M_s (M_rn v)) 222 = M_s (M_rn v) 222 := by simp only [aShift]; simp (disch := omega) only [upd_at, upd_ne, if_pos, if_neg]
  repeat first | (with_reducible refine s_nmj1 ?_) | (with_reducible refine s_nmj2 ?_) | ((with_reducible refine s_nm ?_); intro y_ hy_; (try simp (disch := omega) only [n_lit, n_add, n_mul, n_sub, n_tn, n_ltT, n_ltF, n_leT, n_leF, n_eqT, n_eqF, n_div, n_ixT, n_ixF, n_not, n_md, n_dec, n_and1, n_and3, n_and7, n_and15, n_and31, n_and63, Nat.mod_eq_of_lt, Nat.zero_add, Nat.add_zero, Nat.zero_mul, Nat.sub_zero, not_false_eq_true, not_true_eq_false, upd_at, upd_ne, h219, h221, h222] at hy_); subst hy_) | ((with_reducible refine s_pos ?_ ?_); · simp (disch := omega) only [n_lit, n_add, n_mul, n_sub, n_tn, n_ltT, n_ltF, n_leT, n_leF, n_eqT, n_eqF, n_div, n_ixT, n_ixF, n_not, n_md, n_dec, n_and1, n_and3, n_and7, n_and15, n_and31, n_and63, Nat.mod_eq_of_lt, Nat.zero_add, Nat.add_zero, Nat.zero_mul, Nat.sub_zero, not_false_eq_true, not_true_eq_false, upd_at, upd_ne, h219, h221, h222]) | ((with_reducible refine s_neg ?_ ?_); · simp (disch := omega) only [n_lit, n_add, n_mul, n_sub, n_tn, n_ltT, n_ltF, n_leT, n_leF, n_eqT, n_eqF, n_div, n_ixT, n_ixF, n_not, n_md, n_dec, n_and1, n_and3, n_and7, n_and15, n_and31, n_and63, Nat.mod_eq_of_lt, Nat.zero_add, Nat.add_zero, Nat.zero_mul, Nat.sub_zero, not_false_eq_true, not_true_eq_false, upd_at, upd_ne, h219, h221, h222]) 
  rw [n_lit 0, k2, k3, k4]
  by_cases hd : stk (emp (backRow (alRow (M_s (M_rn v)) a l t))) 222 = M_number (M_cd v) 6
  · repeat first | (with_reducible refine s_nmj1 ?_) | (with_reducible refine s_nmj2 ?_) | ((with_reducible refine s_nm ?_); intro y_ hy_; (try simp (disch := omega) only [n_lit, n_add, n_mul, n_sub, n_tn, n_ltT, n_ltF, n_leT, n_leF, n_eqT, n_eqF, n_div, n_ixT, n_ixF, n_not, n_md, n_dec, n_and1, n_and3, n_and7, n_and15, n_and31, n_and63, Nat.mod_eq_of_lt, Nat.zero_add, Nat.add_zero, Nat.zero_mul, Nat.sub_zero, not_false_eq_true, not_true_eq_false, upd_at, upd_ne, mS, M_tp_mk, M_rd_mk, M_lf_mk, M_cd_mk, M_rn_mk, M_ex_mk, M_im_mk, M_al_mk, M_thrown_mk, M_s_mk, M_spanNow_mk, M_sizeNow_mk, M_placeThen_mk] at hy_); subst hy_) | ((with_reducible refine s_pos ?_ ?_); · simp (disch := omega) only [n_lit, n_add, n_mul, n_sub, n_tn, n_ltT, n_ltF, n_leT, n_leF, n_eqT, n_eqF, n_div, n_ixT, n_ixF, n_not, n_md, n_dec, n_and1, n_and3, n_and7, n_and15, n_and31, n_and63, Nat.mod_eq_of_lt, Nat.zero_add, Nat.add_zero, Nat.zero_mul, Nat.sub_zero, not_false_eq_true, not_true_eq_false, upd_at, upd_ne, mS, M_tp_mk, M_rd_mk, M_lf_mk, M_cd_mk, M_rn_mk, M_ex_mk, M_im_mk, M_al_mk, M_thrown_mk, M_s_mk, M_spanNow_mk, M_sizeNow_mk, M_placeThen_mk]) | ((with_reducible refine s_neg ?_ ?_); · simp (disch := omega) only [n_lit, n_add, n_mul, n_sub, n_tn, n_ltT, n_ltF, n_leT, n_leF, n_eqT, n_eqF, n_div, n_ixT, n_ixF, n_not, n_md, n_dec, n_and1, n_and3, n_and7, n_and15, n_and31, n_and63, Nat.mod_eq_of_lt, Nat.zero_add, Nat.add_zero, Nat.zero_mul, Nat.sub_zero, not_false_eq_true, not_true_eq_false, upd_at, upd_ne, mS, M_tp_mk, M_rd_mk, M_lf_mk, M_cd_mk, M_rn_mk, M_ex_mk, M_im_mk, M_al_mk, M_thrown_mk, M_s_mk, M_spanNow_mk, M_sizeNow_mk, M_placeThen_mk])  | (with_reducible refine s_bd (M_sticks _) ?_) | (with_reducible refine s_bd (M_empties _) ?_) | ((with_reducible refine s_pos ?_ ?_); · exact hd)
    rw [alFin, if_pos hd]
    rfl
  · repeat first | (with_reducible refine s_nmj1 ?_) | (with_reducible refine s_nmj2 ?_) | ((with_reducible refine s_nm ?_); intro y_ hy_; (try simp (disch := omega) only [n_lit, n_add, n_mul, n_sub, n_tn, n_ltT, n_ltF, n_leT, n_leF, n_eqT, n_eqF, n_div, n_ixT, n_ixF, n_not, n_md, n_dec, n_and1, n_and3, n_and7, n_and15, n_and31, n_and63, Nat.mod_eq_of_lt, Nat.zero_add, Nat.add_zero, Nat.zero_mul, Nat.sub_zero, not_false_eq_true, not_true_eq_false, upd_at, upd_ne, mS, M_tp_mk, M_rd_mk, M_lf_mk, M_cd_mk, M_rn_mk, M_ex_mk, M_im_mk, M_al_mk, M_thrown_mk, M_s_mk, M_spanNow_mk, M_sizeNow_mk, M_placeThen_mk] at hy_); subst hy_) | ((with_reducible refine s_pos ?_ ?_); · simp (disch := omega) only [n_lit, n_add, n_mul, n_sub, n_tn, n_ltT, n_ltF, n_leT, n_leF, n_eqT, n_eqF, n_div, n_ixT, n_ixF, n_not, n_md, n_dec, n_and1, n_and3, n_and7, n_and15, n_and31, n_and63, Nat.mod_eq_of_lt, Nat.zero_add, Nat.add_zero, Nat.zero_mul, Nat.sub_zero, not_false_eq_true, not_true_eq_false, upd_at, upd_ne, mS, M_tp_mk, M_rd_mk, M_lf_mk, M_cd_mk, M_rn_mk, M_ex_mk, M_im_mk, M_al_mk, M_thrown_mk, M_s_mk, M_spanNow_mk, M_sizeNow_mk, M_placeThen_mk]) | ((with_reducible refine s_neg ?_ ?_); · simp (disch := omega) only [n_lit, n_add, n_mul, n_sub, n_tn, n_ltT, n_ltF, n_leT, n_leF, n_eqT, n_eqF, n_div, n_ixT, n_ixF, n_not, n_md, n_dec, n_and1, n_and3, n_and7, n_and15, n_and31, n_and63, Nat.mod_eq_of_lt, Nat.zero_add, Nat.add_zero, Nat.zero_mul, Nat.sub_zero, not_false_eq_true, not_true_eq_false, upd_at, upd_ne, mS, M_tp_mk, M_rd_mk, M_lf_mk, M_cd_mk, M_rn_mk, M_ex_mk, M_im_mk, M_al_mk, M_thrown_mk, M_s_mk, M_spanNow_mk, M_sizeNow_mk, M_placeThen_mk])  | (with_reducible refine s_bd (M_sticks _) ?_) | (with_reducible refine s_bd (M_empties _) ?_) | ((with_reducible refine s_neg ?_ ?_); · exact hd)
    rw [alFin, if_neg hd]
    rfl
