/-! strays -/
theorem cnt_comm (f g : Nat → Int32) : ∀ n, cnt f g n = cnt g f n
  | 0 => rfl
  | n + 1 => by
    simp only [cnt]
    rw [cnt_comm f g n]
    by_cases q : f n = g n
    · rw [if_pos q, if_pos q.symm]
    · rw [if_neg q, if_neg (fun h => q h.symm)]
theorem M_strays159 {v : T_M} {w c : Nat} (hw : w < 2) (hc : c < 100) (k : Int32 → Option (Int32 × T_M)) : f_M_strays_L159 (NN w) v k LF (NN c) (NN 0) = k (NN (c + cnt (M_aloneRegister (M_al v)) (fun j => M_s (M_rn v) (4 + 8 * w + j)) 8)) := by
  obtain ⟨s', e, h⟩ := loop_from (fun n x s => f_M_strays_L159 (NN w) v k n s x) k (fun x s => s = NN (c + cnt (M_aloneRegister (M_al v)) (fun j => M_s (M_rn v) (4 + 8 * w + j)) x)) 0 8 (n := LF) (s := NN c)
    (by
      intro n x s _ hx hI
      subst hI
      have hcl := cnt_le (M_aloneRegister (M_al v)) (fun j => M_s (M_rn v) (4 + 8 * w + j)) x
      refine ⟨NN (c + cnt (M_aloneRegister (M_al v)) (fun j => M_s (M_rn v) (4 + 8 * w + j)) (x + 1)), ?_, rfl⟩
      simp only [f_M_strays_L159, cnt]
      by_cases q : M_aloneRegister (M_al v) x = M_s (M_rn v) (4 + 8 * w + x)
      · rw [if_pos q]
        repeat first | (with_reducible refine s_nmj1 ?_) | (with_reducible refine s_nmj2 ?_) | ((with_reducible refine s_nm ?_); intro y_ hy_; (try simp (disch := omega) only [n_lit, n_add, n_mul, n_sub, n_tn, n_ltT, n_ltF, n_leT, n_leF, n_eqT, n_eqF, n_div, n_ixT, n_ixF, n_not, n_md, n_dec, n_and1, n_and3, n_and7, n_and15, n_and31, n_and63, Nat.mod_eq_of_lt, Nat.zero_add, Nat.add_zero, Nat.zero_mul, Nat.sub_zero, not_false_eq_true, not_true_eq_false, upd_at, upd_ne, q] at hy_); subst hy_) | ((with_reducible refine s_pos ?_ ?_); · simp (disch := omega) only [n_lit, n_add, n_mul, n_sub, n_tn, n_ltT, n_ltF, n_leT, n_leF, n_eqT, n_eqF, n_div, n_ixT, n_ixF, n_not, n_md, n_dec, n_and1, n_and3, n_and7, n_and15, n_and31, n_and63, Nat.mod_eq_of_lt, Nat.zero_add, Nat.add_zero, Nat.zero_mul, Nat.sub_zero, not_false_eq_true, not_true_eq_false, upd_at, upd_ne, q]) | ((with_reducible refine s_neg ?_ ?_); · simp (disch := omega) only [n_lit, n_add, n_mul, n_sub, n_tn, n_ltT, n_ltF, n_leT, n_leF, n_eqT, n_eqF, n_div, n_ixT, n_ixF, n_not, n_md, n_dec, n_and1, n_and3, n_and7, n_and15, n_and31, n_and63, Nat.mod_eq_of_lt, Nat.zero_add, Nat.add_zero, Nat.zero_mul, Nat.sub_zero, not_false_eq_true, not_true_eq_false, upd_at, upd_ne, q]) 
        rfl
      · rw [if_neg q]
        repeat first | (with_reducible refine s_nmj1 ?_) | (with_reducible refine s_nmj2 ?_) | ((with_reducible refine s_nm ?_); intro y_ hy_; (try simp (disch := omega) only [n_lit, n_add, n_mul, n_sub, n_tn, n_ltT, n_ltF, n_leT, n_leF, n_eqT, n_eqF, n_div, n_ixT, n_ixF, n_not, n_md, n_dec, n_and1, n_and3, n_and7, n_and15, n_and31, n_and63, Nat.mod_eq_of_lt, Nat.zero_add, Nat.add_zero, Nat.zero_mul, Nat.sub_zero, not_false_eq_true, not_true_eq_false, upd_at, upd_ne] at hy_); subst hy_) | ((with_reducible refine s_pos ?_ ?_); · simp (disch := omega) only [n_lit, n_add, n_mul, n_sub, n_tn, n_ltT, n_ltF, n_leT, n_leF, n_eqT, n_eqF, n_div, n_ixT, n_ixF, n_not, n_md, n_dec, n_and1, n_and3, n_and7, n_and15, n_and31, n_and63, Nat.mod_eq_of_lt, Nat.zero_add, Nat.add_zero, Nat.zero_mul, Nat.sub_zero, not_false_eq_true, not_true_eq_false, upd_at, upd_ne]) | ((with_reducible refine s_neg ?_ ?_); · simp (disch := omega) only [n_lit, n_add, n_mul, n_sub, n_tn, n_ltT, n_ltF, n_leT, n_leF, n_eqT, n_eqF, n_div, n_ixT, n_ixF, n_not, n_md, n_dec, n_and1, n_and3, n_and7, n_and15, n_and31, n_and63, Nat.mod_eq_of_lt, Nat.zero_add, Nat.add_zero, Nat.zero_mul, Nat.sub_zero, not_false_eq_true, not_true_eq_false, upd_at, upd_ne])  | ((with_reducible refine s_neg ?_ ?_); · (simp (disch := omega) only [n_lit, n_add, n_mul, n_sub, n_tn, n_ltT, n_ltF, n_leT, n_leF, n_eqT, n_eqF, n_div, n_ixT, n_ixF, n_not, n_md, n_dec, n_and1, n_and3, n_and7, n_and15, n_and31, n_and63, Nat.mod_eq_of_lt, Nat.zero_add, Nat.add_zero, Nat.zero_mul, Nat.sub_zero, not_false_eq_true, not_true_eq_false, upd_at, upd_ne]; exact q))
        rw [Nat.add_assoc])
    (fun n s _ => by
      simp only [f_M_strays_L159]
      repeat first | (with_reducible refine s_nmj1 ?_) | (with_reducible refine s_nmj2 ?_) | ((with_reducible refine s_nm ?_); intro y_ hy_; (try simp (disch := omega) only [n_lit, n_add, n_mul, n_sub, n_tn, n_ltT, n_ltF, n_leT, n_leF, n_eqT, n_eqF, n_div, n_ixT, n_ixF, n_not, n_md, n_dec, n_and1, n_and3, n_and7, n_and15, n_and31, n_and63, Nat.mod_eq_of_lt, Nat.zero_add, Nat.add_zero, Nat.zero_mul, Nat.sub_zero, not_false_eq_true, not_true_eq_false, upd_at, upd_ne] at hy_); subst hy_) | ((with_reducible refine s_pos ?_ ?_); · simp (disch := omega) only [n_lit, n_add, n_mul, n_sub, n_tn, n_ltT, n_ltF, n_leT, n_leF, n_eqT, n_eqF, n_div, n_ixT, n_ixF, n_not, n_md, n_dec, n_and1, n_and3, n_and7, n_and15, n_and31, n_and63, Nat.mod_eq_of_lt, Nat.zero_add, Nat.add_zero, Nat.zero_mul, Nat.sub_zero, not_false_eq_true, not_true_eq_false, upd_at, upd_ne]) | ((with_reducible refine s_neg ?_ ?_); · simp (disch := omega) only [n_lit, n_add, n_mul, n_sub, n_tn, n_ltT, n_ltF, n_leT, n_leF, n_eqT, n_eqF, n_div, n_ixT, n_ixF, n_not, n_md, n_dec, n_and1, n_and3, n_and7, n_and15, n_and31, n_and63, Nat.mod_eq_of_lt, Nat.zero_add, Nat.add_zero, Nat.zero_mul, Nat.sub_zero, not_false_eq_true, not_true_eq_false, upd_at, upd_ne]) 
      rfl) (by omega) (lf_big (by omega)) rfl
  rw [← h]; exact e
theorem M_strays203 {v : T_M} {w c : Nat} (hw : w < 2) (hc : c < 100) (k : Int32 → Option (Int32 × T_M)) : f_M_strays_L203 (NN w) v k LF (NN c) (NN 0) = k (NN (c + cnt (M_aloneReal (M_al v)) (fun j => M_s (M_rn v) (20 + 4 * w + j)) 4)) := by
  obtain ⟨s', e, h⟩ := loop_from (fun n x s => f_M_strays_L203 (NN w) v k n s x) k (fun x s => s = NN (c + cnt (M_aloneReal (M_al v)) (fun j => M_s (M_rn v) (20 + 4 * w + j)) x)) 0 4 (n := LF) (s := NN c)
    (by
      intro n x s _ hx hI
      subst hI
      have hcl := cnt_le (M_aloneReal (M_al v)) (fun j => M_s (M_rn v) (20 + 4 * w + j)) x
      refine ⟨NN (c + cnt (M_aloneReal (M_al v)) (fun j => M_s (M_rn v) (20 + 4 * w + j)) (x + 1)), ?_, rfl⟩
      simp only [f_M_strays_L203, cnt]
      by_cases q : M_aloneReal (M_al v) x = M_s (M_rn v) (20 + 4 * w + x)
      · rw [if_pos q]
        repeat first | (with_reducible refine s_nmj1 ?_) | (with_reducible refine s_nmj2 ?_) | ((with_reducible refine s_nm ?_); intro y_ hy_; (try simp (disch := omega) only [n_lit, n_add, n_mul, n_sub, n_tn, n_ltT, n_ltF, n_leT, n_leF, n_eqT, n_eqF, n_div, n_ixT, n_ixF, n_not, n_md, n_dec, n_and1, n_and3, n_and7, n_and15, n_and31, n_and63, Nat.mod_eq_of_lt, Nat.zero_add, Nat.add_zero, Nat.zero_mul, Nat.sub_zero, not_false_eq_true, not_true_eq_false, upd_at, upd_ne, q] at hy_); subst hy_) | ((with_reducible refine s_pos ?_ ?_); · simp (disch := omega) only [n_lit, n_add, n_mul, n_sub, n_tn, n_ltT, n_ltF, n_leT, n_leF, n_eqT, n_eqF, n_div, n_ixT, n_ixF, n_not, n_md, n_dec, n_and1, n_and3, n_and7, n_and15, n_and31, n_and63, Nat.mod_eq_of_lt, Nat.zero_add, Nat.add_zero, Nat.zero_mul, Nat.sub_zero, not_false_eq_true, not_true_eq_false, upd_at, upd_ne, q]) | ((with_reducible refine s_neg ?_ ?_); · simp (disch := omega) only [n_lit, n_add, n_mul, n_sub, n_tn, n_ltT, n_ltF, n_leT, n_leF, n_eqT, n_eqF, n_div, n_ixT, n_ixF, n_not, n_md, n_dec, n_and1, n_and3, n_and7, n_and15, n_and31, n_and63, Nat.mod_eq_of_lt, Nat.zero_add, Nat.add_zero, Nat.zero_mul, Nat.sub_zero, not_false_eq_true, not_true_eq_false, upd_at, upd_ne, q]) 
        rfl
      · rw [if_neg q]
        repeat first | (with_reducible refine s_nmj1 ?_) | (with_reducible refine s_nmj2 ?_) | ((with_reducible refine s_nm ?_); intro y_ hy_; (try simp (disch := omega) only [n_lit, n_add, n_mul, n_sub, n_tn, n_ltT, n_ltF, n_leT, n_leF, n_eqT, n_eqF, n_div, n_ixT, n_ixF, n_not, n_md, n_dec, n_and1, n_and3, n_and7, n_and15, n_and31, n_and63, Nat.mod_eq_of_lt, Nat.zero_add, Nat.add_zero, Nat.zero_mul, Nat.sub_zero, not_false_eq_true, not_true_eq_false, upd_at, upd_ne] at hy_); subst hy_) | ((with_reducible refine s_pos ?_ ?_); · simp (disch := omega) only [n_lit, n_add, n_mul, n_sub, n_tn, n_ltT, n_ltF, n_leT, n_leF, n_eqT, n_eqF, n_div, n_ixT, n_ixF, n_not, n_md, n_dec, n_and1, n_and3, n_and7, n_and15, n_and31, n_and63, Nat.mod_eq_of_lt, Nat.zero_add, Nat.add_zero, Nat.zero_mul, Nat.sub_zero, not_false_eq_true, not_true_eq_false, upd_at, upd_ne]) | ((with_reducible refine s_neg ?_ ?_); · simp (disch := omega) only [n_lit, n_add, n_mul, n_sub, n_tn, n_ltT, n_ltF, n_leT, n_leF, n_eqT, n_eqF, n_div, n_ixT, n_ixF, n_not, n_md, n_dec, n_and1, n_and3, n_and7, n_and15, n_and31, n_and63, Nat.mod_eq_of_lt, Nat.zero_add, Nat.add_zero, Nat.zero_mul, Nat.sub_zero, not_false_eq_true, not_true_eq_false, upd_at, upd_ne])  | ((with_reducible refine s_neg ?_ ?_); · (simp (disch := omega) only [n_lit, n_add, n_mul, n_sub, n_tn, n_ltT, n_ltF, n_leT, n_leF, n_eqT, n_eqF, n_div, n_ixT, n_ixF, n_not, n_md, n_dec, n_and1, n_and3, n_and7, n_and15, n_and31, n_and63, Nat.mod_eq_of_lt, Nat.zero_add, Nat.add_zero, Nat.zero_mul, Nat.sub_zero, not_false_eq_true, not_true_eq_false, upd_at, upd_ne]; exact q))
        rw [Nat.add_assoc])
    (fun n s _ => by
      simp only [f_M_strays_L203]
      repeat first | (with_reducible refine s_nmj1 ?_) | (with_reducible refine s_nmj2 ?_) | ((with_reducible refine s_nm ?_); intro y_ hy_; (try simp (disch := omega) only [n_lit, n_add, n_mul, n_sub, n_tn, n_ltT, n_ltF, n_leT, n_leF, n_eqT, n_eqF, n_div, n_ixT, n_ixF, n_not, n_md, n_dec, n_and1, n_and3, n_and7, n_and15, n_and31, n_and63, Nat.mod_eq_of_lt, Nat.zero_add, Nat.add_zero, Nat.zero_mul, Nat.sub_zero, not_false_eq_true, not_true_eq_false, upd_at, upd_ne] at hy_); subst hy_) | ((with_reducible refine s_pos ?_ ?_); · simp (disch := omega) only [n_lit, n_add, n_mul, n_sub, n_tn, n_ltT, n_ltF, n_leT, n_leF, n_eqT, n_eqF, n_div, n_ixT, n_ixF, n_not, n_md, n_dec, n_and1, n_and3, n_and7, n_and15, n_and31, n_and63, Nat.mod_eq_of_lt, Nat.zero_add, Nat.add_zero, Nat.zero_mul, Nat.sub_zero, not_false_eq_true, not_true_eq_false, upd_at, upd_ne]) | ((with_reducible refine s_neg ?_ ?_); · simp (disch := omega) only [n_lit, n_add, n_mul, n_sub, n_tn, n_ltT, n_ltF, n_leT, n_leF, n_eqT, n_eqF, n_div, n_ixT, n_ixF, n_not, n_md, n_dec, n_and1, n_and3, n_and7, n_and15, n_and31, n_and63, Nat.mod_eq_of_lt, Nat.zero_add, Nat.add_zero, Nat.zero_mul, Nat.sub_zero, not_false_eq_true, not_true_eq_false, upd_at, upd_ne]) 
      rfl) (by omega) (lf_big (by omega)) rfl
  rw [← h]; exact e
theorem M_strays30 {v : T_M} {w : Nat} (hw : w < 2) : ∃ f, (∀ k : (Nat → Int32) → Option (Int32 × T_M), f_M_strays_L30 v (NN w) k LF (NN 0) (M_aloneRegister (M_al v)) = k f) ∧ ∀ j, j < 8 → f j = M_s (M_rn v) (30 + 8 * w + j) := by
  refine ⟨fun j => if j < 8 then M_s (M_rn v) (30 + 8 * w + j) else M_aloneRegister (M_al v) j, fun k => ?_, fun j hj => if_pos hj⟩
  obtain ⟨s', e, h⟩ := loop_from (f_M_strays_L30 v (NN w) k) k (fun x s => ∀ j, s j = if j < x then M_s (M_rn v) (30 + 8 * w + j) else M_aloneRegister (M_al v) j) 0 8 (n := LF) (s := M_aloneRegister (M_al v))
    (by
      intro n x s _ hx hI
      refine ⟨upd s x (M_s (M_rn v) (30 + 8 * w + x)), ?_, ?_⟩
      · simp only [f_M_strays_L30]
        simp (disch := omega) only [nm, bd_some, bd2_some, bd3_some, n_lit, n_add, n_mul, n_sub, n_tn, n_ltT, n_ltF, n_leT, n_leF, n_eqT, n_eqF, n_div, n_ixT, n_ixF, n_not, n_md, n_dec, n_and1, n_and3, n_and7, n_and15, n_and31, n_and63, Nat.mod_eq_of_lt, Nat.zero_add, Nat.add_zero, Nat.zero_mul, Nat.sub_zero, not_false_eq_true, not_true_eq_false, if_pos, if_neg, false_or, or_false, not_false_eq_true, Nat.not_le, Nat.not_lt, if_true, if_false, Nat.zero_add, Nat.add_zero, Nat.zero_mul, Nat.sub_zero, upd_at, upd_ne]
      · intro j
        by_cases q : j = x
        · rw [upd_at q, if_pos (by omega), q]
        · rw [upd_ne q, hI j]
          have : j < x + 1 ↔ j < x := by omega
          simp only [this])
    (fun n s _ => by
      simp only [f_M_strays_L30]
      simp (disch := omega) only [nm, bd_some, bd2_some, bd3_some, n_lit, n_add, n_mul, n_sub, n_tn, n_ltT, n_ltF, n_leT, n_leF, n_eqT, n_eqF, n_div, n_ixT, n_ixF, n_not, n_md, n_dec, n_and1, n_and3, n_and7, n_and15, n_and31, n_and63, Nat.mod_eq_of_lt, Nat.zero_add, Nat.add_zero, Nat.zero_mul, Nat.sub_zero, not_false_eq_true, not_true_eq_false, if_pos, if_neg, false_or, or_false, not_false_eq_true, Nat.not_le, Nat.not_lt, if_true, if_false, Nat.zero_add, Nat.add_zero, Nat.zero_mul, Nat.sub_zero, upd_at, upd_ne]) (by omega) (lf_big (by omega)) (fun j => by rw [if_neg (by omega)])
  rw [e]; exact congrArg k (funext h)
theorem M_strays64 {v : T_M} {w : Nat} (hw : w < 2) : ∃ f, (∀ k : (Nat → Int32) → Option (Int32 × T_M), f_M_strays_L64 v (NN w) k LF (NN 0) (M_aloneReal (M_al v)) = k f) ∧ ∀ j, j < 4 → f j = M_s (M_rn v) (46 + 4 * w + j) := by
  refine ⟨fun j => if j < 4 then M_s (M_rn v) (46 + 4 * w + j) else M_aloneReal (M_al v) j, fun k => ?_, fun j hj => if_pos hj⟩
  obtain ⟨s', e, h⟩ := loop_from (f_M_strays_L64 v (NN w) k) k (fun x s => ∀ j, s j = if j < x then M_s (M_rn v) (46 + 4 * w + j) else M_aloneReal (M_al v) j) 0 4 (n := LF) (s := M_aloneReal (M_al v))
    (by
      intro n x s _ hx hI
      refine ⟨upd s x (M_s (M_rn v) (46 + 4 * w + x)), ?_, ?_⟩
      · simp only [f_M_strays_L64]
        simp (disch := omega) only [nm, bd_some, bd2_some, bd3_some, n_lit, n_add, n_mul, n_sub, n_tn, n_ltT, n_ltF, n_leT, n_leF, n_eqT, n_eqF, n_div, n_ixT, n_ixF, n_not, n_md, n_dec, n_and1, n_and3, n_and7, n_and15, n_and31, n_and63, Nat.mod_eq_of_lt, Nat.zero_add, Nat.add_zero, Nat.zero_mul, Nat.sub_zero, not_false_eq_true, not_true_eq_false, if_pos, if_neg, false_or, or_false, not_false_eq_true, Nat.not_le, Nat.not_lt, if_true, if_false, Nat.zero_add, Nat.add_zero, Nat.zero_mul, Nat.sub_zero, upd_at, upd_ne]
      · intro j
        by_cases q : j = x
        · rw [upd_at q, if_pos (by omega), q]
        · rw [upd_ne q, hI j]
          have : j < x + 1 ↔ j < x := by omega
          simp only [this])
    (fun n s _ => by
      simp only [f_M_strays_L64]
      simp (disch := omega) only [nm, bd_some, bd2_some, bd3_some, n_lit, n_add, n_mul, n_sub, n_tn, n_ltT, n_ltF, n_leT, n_leF, n_eqT, n_eqF, n_div, n_ixT, n_ixF, n_not, n_md, n_dec, n_and1, n_and3, n_and7, n_and15, n_and31, n_and63, Nat.mod_eq_of_lt, Nat.zero_add, Nat.add_zero, Nat.zero_mul, Nat.sub_zero, not_false_eq_true, not_true_eq_false, if_pos, if_neg, false_or, or_false, not_false_eq_true, Nat.not_le, Nat.not_lt, if_true, if_false, Nat.zero_add, Nat.add_zero, Nat.zero_mul, Nat.sub_zero, upd_at, upd_ne]) (by omega) (lf_big (by omega)) (fun j => by rw [if_neg (by omega)])
  rw [e]; exact congrArg k (funext h)
theorem M_strays96 {v : T_M} : ∃ f, (∀ k : (Nat → Int32) → Option (Int32 × T_M), f_M_strays_L96 v k LF (NN 0) (M_aloneMemory (M_al v)) = k f) ∧ ∀ j, j < 32 → f j = M_s (M_rn v) (146 + j) := by
  refine ⟨fun j => if j < 32 then M_s (M_rn v) (146 + j) else M_aloneMemory (M_al v) j, fun k => ?_, fun j hj => if_pos hj⟩
  obtain ⟨s', e, h⟩ := loop_from (f_M_strays_L96 v k) k (fun x s => ∀ j, s j = if j < x then M_s (M_rn v) (146 + j) else M_aloneMemory (M_al v) j) 0 32 (n := LF) (s := M_aloneMemory (M_al v))
    (by
      intro n x s _ hx hI
      refine ⟨upd s x (M_s (M_rn v) (146 + x)), ?_, ?_⟩
      · simp only [f_M_strays_L96]
        simp (disch := omega) only [nm, bd_some, bd2_some, bd3_some, n_lit, n_add, n_mul, n_sub, n_tn, n_ltT, n_ltF, n_leT, n_leF, n_eqT, n_eqF, n_div, n_ixT, n_ixF, n_not, n_md, n_dec, n_and1, n_and3, n_and7, n_and15, n_and31, n_and63, Nat.mod_eq_of_lt, Nat.zero_add, Nat.add_zero, Nat.zero_mul, Nat.sub_zero, not_false_eq_true, not_true_eq_false, if_pos, if_neg, false_or, or_false, not_false_eq_true, Nat.not_le, Nat.not_lt, if_true, if_false, Nat.zero_add, Nat.add_zero, Nat.zero_mul, Nat.sub_zero, upd_at, upd_ne]
      · intro j
        by_cases q : j = x
        · rw [upd_at q, if_pos (by omega), q]
        · rw [upd_ne q, hI j]
          have : j < x + 1 ↔ j < x := by omega
          simp only [this])
    (fun n s _ => by
      simp only [f_M_strays_L96]
      simp (disch := omega) only [nm, bd_some, bd2_some, bd3_some, n_lit, n_add, n_mul, n_sub, n_tn, n_ltT, n_ltF, n_leT, n_leF, n_eqT, n_eqF, n_div, n_ixT, n_ixF, n_not, n_md, n_dec, n_and1, n_and3, n_and7, n_and15, n_and31, n_and63, Nat.mod_eq_of_lt, Nat.zero_add, Nat.add_zero, Nat.zero_mul, Nat.sub_zero, not_false_eq_true, not_true_eq_false, if_pos, if_neg, false_or, or_false, not_false_eq_true, Nat.not_le, Nat.not_lt, if_true, if_false, Nat.zero_add, Nat.add_zero, Nat.zero_mul, Nat.sub_zero, upd_at, upd_ne]) (by omega) (lf_big (by omega)) (fun j => by rw [if_neg (by omega)])
  rw [e]; exact congrArg k (funext h)
/-- how many are astray, of the one THREAD -/
theorem stray_w {pr : T_Pg} {m : T_M} {nn w pl n pb : Nat} {st pt : T_St} {mem : Nat → Int32} (hw : w < 2) (hcd : RCd pr m nn) (hS : RSt w st (M_s (M_rn m)) pl n) (hB : RBk pt (M_s (M_rn m)) pb) (hmem : ∀ a, a < 32 → M_s (M_rn m) (146 + a) = mem a) (al : T_Al) (hal : AL0 al) :
    ∃ al1 al' a' r pl' n' no, f_Al_beginAt al pt mem = some al1 ∧ f_Al_run al1 pr (St_steps st) = some al' ∧ f_St_differences st (Al_strand al') = some r ∧ f_M_strays m (NN w) = some (r, mA (mT m) a') ∧ RLal al' (mA (mT m) a') pl' n' no := by
  obtain ⟨⟨x1, x2, x3⟩, ⟨y1, y2, y3⟩, c1, c2, -, -, -⟩ := hS
  obtain ⟨b1, b2, b3, b4, b5, b6, -⟩ := hB
  obtain ⟨rg, fl, e1, h1, h2⟩ := C_standAs (Al_strand al) pt
  obtain ⟨f8, g8, k8⟩ := M_strays30 (v := m) hw
  obtain ⟨f17, g17, k17⟩ := M_strays64 (v := m) hw
  obtain ⟨f26, g26, k26⟩ := M_strays96 (v := m)
  have hb : M_s (M_rn m) (28 + w) = NN pb := by rcases (by omega : w = 0 ∨ w = 1) with rfl | rfl; exact b3; exact b4
  have hR : RLal ((rg, fl, St_stuckMask (Al_strand al), St_stuckOnes (Al_strand al), St_place pt, NN 0), va_cpy mem (Al_memory al) 0 0 32, Al_output al, NN 0) (mA (mT m) (NN pb, NN 0, NN 0, f8, f17, f26, (M_aloneOutput (M_al m)))) pb 0 0 := by
    refine ⟨⟨b1, rfl, b2⟩, ⟨rfl, rfl, by omega⟩, ⟨rfl, rfl, by omega⟩, fun k hk => ?_, fun k hk => ?_, hal, fun k hk => ?_, fun k hk => by omega⟩
    · show f8 k = rg k
      rw [k8 k hk, h1 k hk, free0 (hal k hk)]
      rcases (by omega : w = 0 ∨ w = 1) with rfl | rfl
      · exact (b5 k hk).1
      · exact (b5 k hk).2
    · show f17 k = fl k
      rw [k17 k hk, h2 k hk]
      rcases (by omega : w = 0 ∨ w = 1) with rfl | rfl
      · exact (b6 k hk).1
      · exact (b6 k hk).2
    · show f26 k = va_cpy mem (Al_memory al) 0 0 32 k
      rw [k26 k hk, cpy_in hk, hmem k hk]
  obtain ⟨al', a', pl', n', no', g1, g2, g3⟩ := al_loop (v0 := mT m) (T := n) hcd (by omega) (fun v3 => some v3) (fun v2 => some v2) n 0 LF LF _ _ pb 0 (by omega) (lf_big (by omega)) (lf_big (by omega)) hR
  obtain ⟨⟨p1, p2, p3⟩, -, -, q1, q2, -, -, -⟩ := id g3
  have hcr : cnt (M_aloneRegister (M_al (mA (mT m) a'))) (fun j => M_s (M_rn (mA (mT m) a')) (4 + 8 * w + j)) 8 = cnt (St_registers st) (St_registers (Al_strand al')) 8 := by
    rw [cnt_comm]
    exact cnt_congr (fun k hk => ⟨c1 k hk, q1 k hk⟩)
  have hcf : cnt (M_aloneReal (M_al (mA (mT m) a'))) (fun j => M_s (M_rn (mA (mT m) a')) (20 + 4 * w + j)) 4 = cnt (St_floats st) (St_floats (Al_strand al')) 4 := by
    rw [cnt_comm]
    exact cnt_congr (fun k hk => ⟨c2 k hk, q2 k hk⟩)
  have hpl : M_s (M_rn (mA (mT m) a')) w = NN pl := x2
  have hG : f_M_aloneGoes ((M_tp m), (M_rd m), (M_lf m), (M_cd m), (M_rn m), (M_ex m), (M_im m), (NN pb, (M_aloneSteps (M_al m)), (M_aloneOut (M_al m)), f8, f17, f26, (M_aloneOutput (M_al m))), (0 : Int32)) (NN n) = some (mA (mT m) a') := by
    unfold f_M_aloneGoes
    exact g2
  have hl1 := cnt_le (St_registers st) (St_registers (Al_strand al')) 8
  have hl2 := cnt_le (M_aloneRegister (M_al (mA (mT m) a'))) (fun j => M_s (M_rn (mA (mT m) a')) (4 + 8 * w + j)) 8
  have hD := C_differences st (Al_strand al')
  refine ⟨((rg, fl, St_stuckMask (Al_strand al), St_stuckOnes (Al_strand al), St_place pt, NN 0), va_cpy mem (Al_memory al) 0 0 32, Al_output al, NN 0), al', a', _, pl', n', no', ?_, ?_, hD, ?_, g3⟩
  · unfold f_Al_beginAt
    repeat first | (with_reducible refine s_nmj1 ?_) | (with_reducible refine s_nmj2 ?_) | ((with_reducible refine s_nm ?_); intro y_ hy_; (try simp (disch := omega) only [n_lit, n_add, n_mul, n_sub, n_tn, n_ltT, n_ltF, n_leT, n_leF, n_eqT, n_eqF, n_div, n_ixT, n_ixF, n_not, n_md, n_dec, n_and1, n_and3, n_and7, n_and15, n_and31, n_and63, Nat.mod_eq_of_lt, Nat.zero_add, Nat.add_zero, Nat.zero_mul, Nat.sub_zero, not_false_eq_true, not_true_eq_false, upd_at, upd_ne] at hy_); subst hy_) | ((with_reducible refine s_pos ?_ ?_); · simp (disch := omega) only [n_lit, n_add, n_mul, n_sub, n_tn, n_ltT, n_ltF, n_leT, n_leF, n_eqT, n_eqF, n_div, n_ixT, n_ixF, n_not, n_md, n_dec, n_and1, n_and3, n_and7, n_and15, n_and31, n_and63, Nat.mod_eq_of_lt, Nat.zero_add, Nat.add_zero, Nat.zero_mul, Nat.sub_zero, not_false_eq_true, not_true_eq_false, upd_at, upd_ne]) | ((with_reducible refine s_neg ?_ ?_); · simp (disch := omega) only [n_lit, n_add, n_mul, n_sub, n_tn, n_ltT, n_ltF, n_leT, n_leF, n_eqT, n_eqF, n_div, n_ixT, n_ixF, n_not, n_md, n_dec, n_and1, n_and3, n_and7, n_and15, n_and31, n_and63, Nat.mod_eq_of_lt, Nat.zero_add, Nat.add_zero, Nat.zero_mul, Nat.sub_zero, not_false_eq_true, not_true_eq_false, upd_at, upd_ne])  | (with_reducible refine s_bd e1 ?_)
    rfl
  · unfold f_Al_run
    rw [y1]
    exact g1
  · unfold f_M_strays
    by_cases q : pl = pl'
    · subst q
      repeat first | (with_reducible refine s_nmj1 ?_) | (with_reducible refine s_nmj2 ?_) | ((with_reducible refine s_nm ?_); intro y_ hy_; (try simp (disch := omega) only [n_lit, n_add, n_mul, n_sub, n_tn, n_ltT, n_ltF, n_leT, n_leF, n_eqT, n_eqF, n_div, n_ixT, n_ixF, n_not, n_md, n_dec, n_and1, n_and3, n_and7, n_and15, n_and31, n_and63, Nat.mod_eq_of_lt, Nat.zero_add, Nat.add_zero, Nat.zero_mul, Nat.sub_zero, not_false_eq_true, not_true_eq_false, upd_at, upd_ne, hb, y2] at hy_); subst hy_) | ((with_reducible refine s_pos ?_ ?_); · simp (disch := omega) only [n_lit, n_add, n_mul, n_sub, n_tn, n_ltT, n_ltF, n_leT, n_leF, n_eqT, n_eqF, n_div, n_ixT, n_ixF, n_not, n_md, n_dec, n_and1, n_and3, n_and7, n_and15, n_and31, n_and63, Nat.mod_eq_of_lt, Nat.zero_add, Nat.add_zero, Nat.zero_mul, Nat.sub_zero, not_false_eq_true, not_true_eq_false, upd_at, upd_ne, hb, y2]) | ((with_reducible refine s_neg ?_ ?_); · simp (disch := omega) only [n_lit, n_add, n_mul, n_sub, n_tn, n_ltT, n_ltF, n_leT, n_leF, n_eqT, n_eqF, n_div, n_ixT, n_ixF, n_not, n_md, n_dec, n_and1, n_and3, n_and7, n_and15, n_and31, n_and63, Nat.mod_eq_of_lt, Nat.zero_add, Nat.add_zero, Nat.zero_mul, Nat.sub_zero, not_false_eq_true, not_true_eq_false, upd_at, upd_ne, hb, y2])  | ((with_reducible refine s_bd (Eq.trans ?_ (M_isIn1 (k := w) (n := 2) ⟨hw, by omega⟩)) ?_); · simp (disch := omega) only [n_lit, n_add, n_mul, n_sub, n_tn, n_ltT, n_ltF, n_leT, n_leF, n_eqT, n_eqF, n_div, n_ixT, n_ixF, n_not, n_md, n_dec, n_and1, n_and3, n_and7, n_and15, n_and31, n_and63, Nat.mod_eq_of_lt, Nat.zero_add, Nat.add_zero, Nat.zero_mul, Nat.sub_zero, not_false_eq_true, not_true_eq_false, upd_at, upd_ne])
      refine (g8 _).trans ?_
      refine (g17 _).trans ?_
      refine (g26 _).trans ?_
      repeat first | (with_reducible refine s_nmj1 ?_) | (with_reducible refine s_nmj2 ?_) | ((with_reducible refine s_nm ?_); intro y_ hy_; (try simp (disch := omega) only [n_lit, n_add, n_mul, n_sub, n_tn, n_ltT, n_ltF, n_leT, n_leF, n_eqT, n_eqF, n_div, n_ixT, n_ixF, n_not, n_md, n_dec, n_and1, n_and3, n_and7, n_and15, n_and31, n_and63, Nat.mod_eq_of_lt, Nat.zero_add, Nat.add_zero, Nat.zero_mul, Nat.sub_zero, not_false_eq_true, not_true_eq_false, upd_at, upd_ne, hb, y2, hpl, p2] at hy_); subst hy_) | ((with_reducible refine s_pos ?_ ?_); · simp (disch := omega) only [n_lit, n_add, n_mul, n_sub, n_tn, n_ltT, n_ltF, n_leT, n_leF, n_eqT, n_eqF, n_div, n_ixT, n_ixF, n_not, n_md, n_dec, n_and1, n_and3, n_and7, n_and15, n_and31, n_and63, Nat.mod_eq_of_lt, Nat.zero_add, Nat.add_zero, Nat.zero_mul, Nat.sub_zero, not_false_eq_true, not_true_eq_false, upd_at, upd_ne, hb, y2, hpl, p2]) | ((with_reducible refine s_neg ?_ ?_); · simp (disch := omega) only [n_lit, n_add, n_mul, n_sub, n_tn, n_ltT, n_ltF, n_leT, n_leF, n_eqT, n_eqF, n_div, n_ixT, n_ixF, n_not, n_md, n_dec, n_and1, n_and3, n_and7, n_and15, n_and31, n_and63, Nat.mod_eq_of_lt, Nat.zero_add, Nat.add_zero, Nat.zero_mul, Nat.sub_zero, not_false_eq_true, not_true_eq_false, upd_at, upd_ne, hb, y2, hpl, p2])  | ((with_reducible refine s_bd (Eq.trans ?_ hG) ?_); · simp (disch := omega) only [n_lit, n_add, n_mul, n_sub, n_tn, n_ltT, n_ltF, n_leT, n_leF, n_eqT, n_eqF, n_div, n_ixT, n_ixF, n_not, n_md, n_dec, n_and1, n_and3, n_and7, n_and15, n_and31, n_and63, Nat.mod_eq_of_lt, Nat.zero_add, Nat.add_zero, Nat.zero_mul, Nat.sub_zero, not_false_eq_true, not_true_eq_false, upd_at, upd_ne, y2])
      refine (M_strays159 (c := 0) hw (by omega) _).trans ?_
      refine (M_strays203 (c := 0 + cnt (M_aloneRegister (M_al (mA (mT m) a'))) (fun j => M_s (M_rn (mA (mT m) a')) (4 + 8 * w + j)) 8) hw (by omega) _).trans ?_
      rw [hcr, hcf, if_pos (by rw [x1, p1])]
    · repeat first | (with_reducible refine s_nmj1 ?_) | (with_reducible refine s_nmj2 ?_) | ((with_reducible refine s_nm ?_); intro y_ hy_; (try simp (disch := omega) only [n_lit, n_add, n_mul, n_sub, n_tn, n_ltT, n_ltF, n_leT, n_leF, n_eqT, n_eqF, n_div, n_ixT, n_ixF, n_not, n_md, n_dec, n_and1, n_and3, n_and7, n_and15, n_and31, n_and63, Nat.mod_eq_of_lt, Nat.zero_add, Nat.add_zero, Nat.zero_mul, Nat.sub_zero, not_false_eq_true, not_true_eq_false, upd_at, upd_ne, hb, y2] at hy_); subst hy_) | ((with_reducible refine s_pos ?_ ?_); · simp (disch := omega) only [n_lit, n_add, n_mul, n_sub, n_tn, n_ltT, n_ltF, n_leT, n_leF, n_eqT, n_eqF, n_div, n_ixT, n_ixF, n_not, n_md, n_dec, n_and1, n_and3, n_and7, n_and15, n_and31, n_and63, Nat.mod_eq_of_lt, Nat.zero_add, Nat.add_zero, Nat.zero_mul, Nat.sub_zero, not_false_eq_true, not_true_eq_false, upd_at, upd_ne, hb, y2]) | ((with_reducible refine s_neg ?_ ?_); · simp (disch := omega) only [n_lit, n_add, n_mul, n_sub, n_tn, n_ltT, n_ltF, n_leT, n_leF, n_eqT, n_eqF, n_div, n_ixT, n_ixF, n_not, n_md, n_dec, n_and1, n_and3, n_and7, n_and15, n_and31, n_and63, Nat.mod_eq_of_lt, Nat.zero_add, Nat.add_zero, Nat.zero_mul, Nat.sub_zero, not_false_eq_true, not_true_eq_false, upd_at, upd_ne, hb, y2])  | ((with_reducible refine s_bd (Eq.trans ?_ (M_isIn1 (k := w) (n := 2) ⟨hw, by omega⟩)) ?_); · simp (disch := omega) only [n_lit, n_add, n_mul, n_sub, n_tn, n_ltT, n_ltF, n_leT, n_leF, n_eqT, n_eqF, n_div, n_ixT, n_ixF, n_not, n_md, n_dec, n_and1, n_and3, n_and7, n_and15, n_and31, n_and63, Nat.mod_eq_of_lt, Nat.zero_add, Nat.add_zero, Nat.zero_mul, Nat.sub_zero, not_false_eq_true, not_true_eq_false, upd_at, upd_ne])
      refine (g8 _).trans ?_
      refine (g17 _).trans ?_
      refine (g26 _).trans ?_
      repeat first | (with_reducible refine s_nmj1 ?_) | (with_reducible refine s_nmj2 ?_) | ((with_reducible refine s_nm ?_); intro y_ hy_; (try simp (disch := omega) only [n_lit, n_add, n_mul, n_sub, n_tn, n_ltT, n_ltF, n_leT, n_leF, n_eqT, n_eqF, n_div, n_ixT, n_ixF, n_not, n_md, n_dec, n_and1, n_and3, n_and7, n_and15, n_and31, n_and63, Nat.mod_eq_of_lt, Nat.zero_add, Nat.add_zero, Nat.zero_mul, Nat.sub_zero, not_false_eq_true, not_true_eq_false, upd_at, upd_ne, hb, y2, hpl, p2] at hy_); subst hy_) | ((with_reducible refine s_pos ?_ ?_); · simp (disch := omega) only [n_lit, n_add, n_mul, n_sub, n_tn, n_ltT, n_ltF, n_leT, n_leF, n_eqT, n_eqF, n_div, n_ixT, n_ixF, n_not, n_md, n_dec, n_and1, n_and3, n_and7, n_and15, n_and31, n_and63, Nat.mod_eq_of_lt, Nat.zero_add, Nat.add_zero, Nat.zero_mul, Nat.sub_zero, not_false_eq_true, not_true_eq_false, upd_at, upd_ne, hb, y2, hpl, p2]) | ((with_reducible refine s_neg ?_ ?_); · simp (disch := omega) only [n_lit, n_add, n_mul, n_sub, n_tn, n_ltT, n_ltF, n_leT, n_leF, n_eqT, n_eqF, n_div, n_ixT, n_ixF, n_not, n_md, n_dec, n_and1, n_and3, n_and7, n_and15, n_and31, n_and63, Nat.mod_eq_of_lt, Nat.zero_add, Nat.add_zero, Nat.zero_mul, Nat.sub_zero, not_false_eq_true, not_true_eq_false, upd_at, upd_ne, hb, y2, hpl, p2])  | ((with_reducible refine s_bd (Eq.trans ?_ hG) ?_); · simp (disch := omega) only [n_lit, n_add, n_mul, n_sub, n_tn, n_ltT, n_ltF, n_leT, n_leF, n_eqT, n_eqF, n_div, n_ixT, n_ixF, n_not, n_md, n_dec, n_and1, n_and3, n_and7, n_and15, n_and31, n_and63, Nat.mod_eq_of_lt, Nat.zero_add, Nat.add_zero, Nat.zero_mul, Nat.sub_zero, not_false_eq_true, not_true_eq_false, upd_at, upd_ne, y2])
      refine (M_strays159 (c := 1) hw (by omega) _).trans ?_
      refine (M_strays203 (c := 1 + cnt (M_aloneRegister (M_al (mA (mT m) a'))) (fun j => M_s (M_rn (mA (mT m) a')) (4 + 8 * w + j)) 8) hw (by omega) _).trans ?_
      rw [hcr, hcf, if_neg (by rw [x1, p1, n_eq (by omega) (by omega)]; exact q)]
theorem sim_strays {B : Nat} {pa : T_Pa} {pr : T_Pg} {m : T_M} (h : RPa B pa pr m) (tt : T_TT) (alo : T_Al) (hal : AL0 alo) (a1 : Int32) :
    ∃ r alo' m', f_TT_strays tt pa alo pr a1 = some (r, alo') ∧ f_M_strays m a1 = some (r, m') ∧ RPa B pa pr m' ∧ KP m m' ∧ AL0 alo' := by
  have no : (f_TT_strays tt pa alo pr a1 = some (-1, alo) ∧ f_M_strays m a1 = some (-1, mT m)) → ∃ r alo' m', f_TT_strays tt pa alo pr a1 = some (r, alo') ∧ f_M_strays m a1 = some (r, m') ∧ RPa B pa pr m' ∧ KP m m' ∧ AL0 alo' :=
    fun e => ⟨-1, alo, mT m, e.1, e.2, h, KP_mT m, hal⟩
  rcases i_cases a1 2 (by decide) with h1 | h1 | ⟨w, h1, rfl⟩
  · refine no ⟨?_, ?_⟩
    · unfold f_TT_strays
      repeat first | (with_reducible refine s_nmj1 ?_) | (with_reducible refine s_nmj2 ?_) | ((with_reducible refine s_nm ?_); intro y_ hy_; (try simp (disch := omega) only [n_lit, n_add, n_mul, n_sub, n_tn, n_ltT, n_ltF, n_leT, n_leF, n_eqT, n_eqF, n_div, n_ixT, n_ixF, n_not, n_md, n_dec, n_and1, n_and3, n_and7, n_and15, n_and31, n_and63, Nat.mod_eq_of_lt, Nat.zero_add, Nat.add_zero, Nat.zero_mul, Nat.sub_zero, not_false_eq_true, not_true_eq_false, upd_at, upd_ne, ng_lt h1, ng_le h1, ng_ge h1, ng_gt h1, ng_eq h1, ng_eq2 h1] at hy_); subst hy_) | ((with_reducible refine s_pos ?_ ?_); · simp (disch := omega) only [n_lit, n_add, n_mul, n_sub, n_tn, n_ltT, n_ltF, n_leT, n_leF, n_eqT, n_eqF, n_div, n_ixT, n_ixF, n_not, n_md, n_dec, n_and1, n_and3, n_and7, n_and15, n_and31, n_and63, Nat.mod_eq_of_lt, Nat.zero_add, Nat.add_zero, Nat.zero_mul, Nat.sub_zero, not_false_eq_true, not_true_eq_false, upd_at, upd_ne, ng_lt h1, ng_le h1, ng_ge h1, ng_gt h1, ng_eq h1, ng_eq2 h1]) | ((with_reducible refine s_neg ?_ ?_); · simp (disch := omega) only [n_lit, n_add, n_mul, n_sub, n_tn, n_ltT, n_ltF, n_leT, n_leF, n_eqT, n_eqF, n_div, n_ixT, n_ixF, n_not, n_md, n_dec, n_and1, n_and3, n_and7, n_and15, n_and31, n_and63, Nat.mod_eq_of_lt, Nat.zero_add, Nat.add_zero, Nat.zero_mul, Nat.sub_zero, not_false_eq_true, not_true_eq_false, upd_at, upd_ne, ng_lt h1, ng_le h1, ng_ge h1, ng_gt h1, ng_eq h1, ng_eq2 h1]) 
      rfl
    · unfold f_M_strays
      repeat first | (with_reducible refine s_nmj1 ?_) | (with_reducible refine s_nmj2 ?_) | ((with_reducible refine s_nm ?_); intro y_ hy_; (try simp (disch := omega) only [n_lit, n_add, n_mul, n_sub, n_tn, n_ltT, n_ltF, n_leT, n_leF, n_eqT, n_eqF, n_div, n_ixT, n_ixF, n_not, n_md, n_dec, n_and1, n_and3, n_and7, n_and15, n_and31, n_and63, Nat.mod_eq_of_lt, Nat.zero_add, Nat.add_zero, Nat.zero_mul, Nat.sub_zero, not_false_eq_true, not_true_eq_false, upd_at, upd_ne] at hy_); subst hy_) | ((with_reducible refine s_pos ?_ ?_); · simp (disch := omega) only [n_lit, n_add, n_mul, n_sub, n_tn, n_ltT, n_ltF, n_leT, n_leF, n_eqT, n_eqF, n_div, n_ixT, n_ixF, n_not, n_md, n_dec, n_and1, n_and3, n_and7, n_and15, n_and31, n_and63, Nat.mod_eq_of_lt, Nat.zero_add, Nat.add_zero, Nat.zero_mul, Nat.sub_zero, not_false_eq_true, not_true_eq_false, upd_at, upd_ne]) | ((with_reducible refine s_neg ?_ ?_); · simp (disch := omega) only [n_lit, n_add, n_mul, n_sub, n_tn, n_ltT, n_ltF, n_leT, n_leF, n_eqT, n_eqF, n_div, n_ixT, n_ixF, n_not, n_md, n_dec, n_and1, n_and3, n_and7, n_and15, n_and31, n_and63, Nat.mod_eq_of_lt, Nat.zero_add, Nat.add_zero, Nat.zero_mul, Nat.sub_zero, not_false_eq_true, not_true_eq_false, upd_at, upd_ne])  | (with_reducible refine s_bd (M_isIn0 h1 _) ?_)
      rfl
  · refine no ⟨?_, ?_⟩
    · unfold f_TT_strays
      repeat first | (with_reducible refine s_nmj1 ?_) | (with_reducible refine s_nmj2 ?_) | ((with_reducible refine s_nm ?_); intro y_ hy_; (try simp (disch := omega) only [n_lit, n_add, n_mul, n_sub, n_tn, n_ltT, n_ltF, n_leT, n_leF, n_eqT, n_eqF, n_div, n_ixT, n_ixF, n_not, n_md, n_dec, n_and1, n_and3, n_and7, n_and15, n_and31, n_and63, Nat.mod_eq_of_lt, Nat.zero_add, Nat.add_zero, Nat.zero_mul, Nat.sub_zero, not_false_eq_true, not_true_eq_false, upd_at, upd_ne, bg_lt h1, bg_le h1, bg_ge h1, bg_gt h1, bg_eq h1, bg_eq2 h1] at hy_); subst hy_) | ((with_reducible refine s_pos ?_ ?_); · simp (disch := omega) only [n_lit, n_add, n_mul, n_sub, n_tn, n_ltT, n_ltF, n_leT, n_leF, n_eqT, n_eqF, n_div, n_ixT, n_ixF, n_not, n_md, n_dec, n_and1, n_and3, n_and7, n_and15, n_and31, n_and63, Nat.mod_eq_of_lt, Nat.zero_add, Nat.add_zero, Nat.zero_mul, Nat.sub_zero, not_false_eq_true, not_true_eq_false, upd_at, upd_ne, bg_lt h1, bg_le h1, bg_ge h1, bg_gt h1, bg_eq h1, bg_eq2 h1]) | ((with_reducible refine s_neg ?_ ?_); · simp (disch := omega) only [n_lit, n_add, n_mul, n_sub, n_tn, n_ltT, n_ltF, n_leT, n_leF, n_eqT, n_eqF, n_div, n_ixT, n_ixF, n_not, n_md, n_dec, n_and1, n_and3, n_and7, n_and15, n_and31, n_and63, Nat.mod_eq_of_lt, Nat.zero_add, Nat.add_zero, Nat.zero_mul, Nat.sub_zero, not_false_eq_true, not_true_eq_false, upd_at, upd_ne, bg_lt h1, bg_le h1, bg_ge h1, bg_gt h1, bg_eq h1, bg_eq2 h1]) 
      rfl
    · unfold f_M_strays
      repeat first | (with_reducible refine s_nmj1 ?_) | (with_reducible refine s_nmj2 ?_) | ((with_reducible refine s_nm ?_); intro y_ hy_; (try simp (disch := omega) only [n_lit, n_add, n_mul, n_sub, n_tn, n_ltT, n_ltF, n_leT, n_leF, n_eqT, n_eqF, n_div, n_ixT, n_ixF, n_not, n_md, n_dec, n_and1, n_and3, n_and7, n_and15, n_and31, n_and63, Nat.mod_eq_of_lt, Nat.zero_add, Nat.add_zero, Nat.zero_mul, Nat.sub_zero, not_false_eq_true, not_true_eq_false, upd_at, upd_ne] at hy_); subst hy_) | ((with_reducible refine s_pos ?_ ?_); · simp (disch := omega) only [n_lit, n_add, n_mul, n_sub, n_tn, n_ltT, n_ltF, n_leT, n_leF, n_eqT, n_eqF, n_div, n_ixT, n_ixF, n_not, n_md, n_dec, n_and1, n_and3, n_and7, n_and15, n_and31, n_and63, Nat.mod_eq_of_lt, Nat.zero_add, Nat.add_zero, Nat.zero_mul, Nat.sub_zero, not_false_eq_true, not_true_eq_false, upd_at, upd_ne]) | ((with_reducible refine s_neg ?_ ?_); · simp (disch := omega) only [n_lit, n_add, n_mul, n_sub, n_tn, n_ltT, n_ltF, n_leT, n_leF, n_eqT, n_eqF, n_div, n_ixT, n_ixF, n_not, n_md, n_dec, n_and1, n_and3, n_and7, n_and15, n_and31, n_and63, Nat.mod_eq_of_lt, Nat.zero_add, Nat.add_zero, Nat.zero_mul, Nat.sub_zero, not_false_eq_true, not_true_eq_false, upd_at, upd_ne])  | ((with_reducible refine s_bd (Eq.trans ?_ (M_isInB h1)) ?_); · simp (disch := omega) only [n_lit, n_add, n_mul, n_sub, n_tn, n_ltT, n_ltF, n_leT, n_leF, n_eqT, n_eqF, n_div, n_ixT, n_ixF, n_not, n_md, n_dec, n_and1, n_and3, n_and7, n_and15, n_and31, n_and63, Nat.mod_eq_of_lt, Nat.zero_add, Nat.add_zero, Nat.zero_mul, Nat.sub_zero, not_false_eq_true, not_true_eq_false, upd_at, upd_ne])
      rfl
  have h2 := h
  obtain ⟨n, sp, lo, hi, z0, z1, z2, tr, pl, nl, pt, nt, pb, fl, nld, fb, nbr, nh, nc, ns, no, tu, po, al, si, sm, dn, dw, hcd, hru, hq, hbk, hou, hta, hdn, hdw, hbd⟩ := h
  obtain ⟨hL, hT, -⟩ := hq
  rcases (by omega : w = 0 ∨ w = 1) with rfl | rfl
  · obtain ⟨al1, alo', a', r, pl', n', no', e1, e2, e3, e4, e5⟩ := stray_w (pr := pr) (by decide) hcd hL hbk hou.1 alo hal
    refine ⟨r, alo', _, ?_, e4, RPa_mA h2 a', KP_mA m a', RL_AL0 e5⟩
    unfold f_TT_strays
    repeat first | (with_reducible refine s_nmj1 ?_) | (with_reducible refine s_nmj2 ?_) | ((with_reducible refine s_nm ?_); intro y_ hy_; (try simp (disch := omega) only [n_lit, n_add, n_mul, n_sub, n_tn, n_ltT, n_ltF, n_leT, n_leF, n_eqT, n_eqF, n_div, n_ixT, n_ixF, n_not, n_md, n_dec, n_and1, n_and3, n_and7, n_and15, n_and31, n_and63, Nat.mod_eq_of_lt, Nat.zero_add, Nat.add_zero, Nat.zero_mul, Nat.sub_zero, not_false_eq_true, not_true_eq_false, upd_at, upd_ne] at hy_); subst hy_) | ((with_reducible refine s_pos ?_ ?_); · simp (disch := omega) only [n_lit, n_add, n_mul, n_sub, n_tn, n_ltT, n_ltF, n_leT, n_leF, n_eqT, n_eqF, n_div, n_ixT, n_ixF, n_not, n_md, n_dec, n_and1, n_and3, n_and7, n_and15, n_and31, n_and63, Nat.mod_eq_of_lt, Nat.zero_add, Nat.add_zero, Nat.zero_mul, Nat.sub_zero, not_false_eq_true, not_true_eq_false, upd_at, upd_ne]) | ((with_reducible refine s_neg ?_ ?_); · simp (disch := omega) only [n_lit, n_add, n_mul, n_sub, n_tn, n_ltT, n_ltF, n_leT, n_leF, n_eqT, n_eqF, n_div, n_ixT, n_ixF, n_not, n_md, n_dec, n_and1, n_and3, n_and7, n_and15, n_and31, n_and63, Nat.mod_eq_of_lt, Nat.zero_add, Nat.add_zero, Nat.zero_mul, Nat.sub_zero, not_false_eq_true, not_true_eq_false, upd_at, upd_ne])  | (with_reducible refine s_bd e1 ?_) | (with_reducible refine s_bd e2 ?_) | (with_reducible refine s_bd e3 ?_)
    rfl
  · obtain ⟨al1, alo', a', r, pl', n', no', e1, e2, e3, e4, e5⟩ := stray_w (pr := pr) (by decide) hcd hT hbk hou.1 alo hal
    refine ⟨r, alo', _, ?_, e4, RPa_mA h2 a', KP_mA m a', RL_AL0 e5⟩
    unfold f_TT_strays
    repeat first | (with_reducible refine s_nmj1 ?_) | (with_reducible refine s_nmj2 ?_) | ((with_reducible refine s_nm ?_); intro y_ hy_; (try simp (disch := omega) only [n_lit, n_add, n_mul, n_sub, n_tn, n_ltT, n_ltF, n_leT, n_leF, n_eqT, n_eqF, n_div, n_ixT, n_ixF, n_not, n_md, n_dec, n_and1, n_and3, n_and7, n_and15, n_and31, n_and63, Nat.mod_eq_of_lt, Nat.zero_add, Nat.add_zero, Nat.zero_mul, Nat.sub_zero, not_false_eq_true, not_true_eq_false, upd_at, upd_ne] at hy_); subst hy_) | ((with_reducible refine s_pos ?_ ?_); · simp (disch := omega) only [n_lit, n_add, n_mul, n_sub, n_tn, n_ltT, n_ltF, n_leT, n_leF, n_eqT, n_eqF, n_div, n_ixT, n_ixF, n_not, n_md, n_dec, n_and1, n_and3, n_and7, n_and15, n_and31, n_and63, Nat.mod_eq_of_lt, Nat.zero_add, Nat.add_zero, Nat.zero_mul, Nat.sub_zero, not_false_eq_true, not_true_eq_false, upd_at, upd_ne]) | ((with_reducible refine s_neg ?_ ?_); · simp (disch := omega) only [n_lit, n_add, n_mul, n_sub, n_tn, n_ltT, n_ltF, n_leT, n_leF, n_eqT, n_eqF, n_div, n_ixT, n_ixF, n_not, n_md, n_dec, n_and1, n_and3, n_and7, n_and15, n_and31, n_and63, Nat.mod_eq_of_lt, Nat.zero_add, Nat.add_zero, Nat.zero_mul, Nat.sub_zero, not_false_eq_true, not_true_eq_false, upd_at, upd_ne])  | (with_reducible refine s_bd e1 ?_) | (with_reducible refine s_bd e2 ?_) | (with_reducible refine s_bd e3 ?_)
    rfl
