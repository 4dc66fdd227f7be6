/-! LINES: slack -/
theorem M_lineS {m v44 a0 : T_M} {r0 : Int32} (h0 : M_sort (M_rd m) = NN 0) (h1 : M_value (M_rd m) = NN 1) (eO : f_M_once m (NN 1) = some v44) (e0 : f_M_numeral v44 (NN 0) (NN 8) = some (r0, a0)) {v9 : T_M} {r8 : Int32} (e1 : f_M_numberAtHand (sN a0 1 r0) (NN 1) (NN 9) = some (r8, v9)) {v11 v13 : T_M}
    (hc : (M_fault (M_rd v9) = NN 0 ∧ r0 < r8 ∧ v11 = v9) ∨ (M_fault (M_rd v9) = NN 0 ∧ r8 ≤ r0 ∧ f_M_wrong v9 (NN 2) = some v11) ∨ (∃ f, f ≠ 0 ∧ f < 10 ∧ M_fault (M_rd v9) = NN f ∧ v11 = v9)) (eg : f_M_goOn v11 = some v13) : f_M_readLine m = ML (sN v13 2 r8) := by
  have eO' : f_M_once m (1 : Int32) = some v44 := eO
  have e0' : f_M_numeral v44 (0 : Int32) (8 : Int32) = some (r0, a0) := e0
  have w0 : f_M_reads a0 (1 : Int32) r0 = some (sN a0 1 r0) := M_reads1 (by decide) _
  have e1' : f_M_numberAtHand (sN a0 1 r0) (1 : Int32) (9 : Int32) = some (r8, v9) := e1
  have w1 : f_M_reads v13 (2 : Int32) r8 = some (sN v13 2 r8) := M_reads1 (by decide) _
  have eS : f_M_readSlack m = some (sN v13 2 r8) := by
    unfold f_M_readSlack
    rcases hc with ⟨c1, c2, rfl⟩ | ⟨c1, c2, c3⟩ | ⟨f, c1, c2, c3, rfl⟩
    · repeat first | (with_reducible refine s_nmj1 ?_) | (with_reducible refine s_nmj2 ?_) | ((with_reducible refine s_nm ?_); intro y_ hy_; (try simp (disch := omega) only [n_lit, n_add, n_mul, n_sub, n_tn, n_ltT, n_ltF, n_leT, n_leF, n_eqT, n_eqF, n_div, n_ixT, n_ixF, n_not, n_md, n_dec, n_and1, n_and3, n_and7, n_and15, n_and31, n_and63, Nat.mod_eq_of_lt, Nat.zero_add, Nat.add_zero, Nat.zero_mul, Nat.sub_zero, not_false_eq_true, not_true_eq_false, upd_at, upd_ne, c1] at hy_); subst hy_) | ((with_reducible refine s_pos ?_ ?_); · simp (disch := omega) only [n_lit, n_add, n_mul, n_sub, n_tn, n_ltT, n_ltF, n_leT, n_leF, n_eqT, n_eqF, n_div, n_ixT, n_ixF, n_not, n_md, n_dec, n_and1, n_and3, n_and7, n_and15, n_and31, n_and63, Nat.mod_eq_of_lt, Nat.zero_add, Nat.add_zero, Nat.zero_mul, Nat.sub_zero, not_false_eq_true, not_true_eq_false, upd_at, upd_ne, c1]) | ((with_reducible refine s_neg ?_ ?_); · simp (disch := omega) only [n_lit, n_add, n_mul, n_sub, n_tn, n_ltT, n_ltF, n_leT, n_leF, n_eqT, n_eqF, n_div, n_ixT, n_ixF, n_not, n_md, n_dec, n_and1, n_and3, n_and7, n_and15, n_and31, n_and63, Nat.mod_eq_of_lt, Nat.zero_add, Nat.add_zero, Nat.zero_mul, Nat.sub_zero, not_false_eq_true, not_true_eq_false, upd_at, upd_ne, c1])  | (with_reducible refine s_bd eO' ?_) | (with_reducible refine s_bd2 e0' ?_) | (with_reducible refine s_bd w0 ?_) | (with_reducible refine s_bd2 e1' ?_) | ((with_reducible refine s_pos ?_ ?_); · exact c2) | (with_reducible refine s_bd eg ?_) | (with_reducible refine s_bd w1 ?_)
      rfl
    · have c3' : f_M_wrong v9 (2 : Int32) = some v11 := c3
      repeat first | (with_reducible refine s_nmj1 ?_) | (with_reducible refine s_nmj2 ?_) | ((with_reducible refine s_nm ?_); intro y_ hy_; (try simp (disch := omega) only [n_lit, n_add, n_mul, n_sub, n_tn, n_ltT, n_ltF, n_leT, n_leF, n_eqT, n_eqF, n_div, n_ixT, n_ixF, n_not, n_md, n_dec, n_and1, n_and3, n_and7, n_and15, n_and31, n_and63, Nat.mod_eq_of_lt, Nat.zero_add, Nat.add_zero, Nat.zero_mul, Nat.sub_zero, not_false_eq_true, not_true_eq_false, upd_at, upd_ne, c1] at hy_); subst hy_) | ((with_reducible refine s_pos ?_ ?_); · simp (disch := omega) only [n_lit, n_add, n_mul, n_sub, n_tn, n_ltT, n_ltF, n_leT, n_leF, n_eqT, n_eqF, n_div, n_ixT, n_ixF, n_not, n_md, n_dec, n_and1, n_and3, n_and7, n_and15, n_and31, n_and63, Nat.mod_eq_of_lt, Nat.zero_add, Nat.add_zero, Nat.zero_mul, Nat.sub_zero, not_false_eq_true, not_true_eq_false, upd_at, upd_ne, c1]) | ((with_reducible refine s_neg ?_ ?_); · simp (disch := omega) only [n_lit, n_add, n_mul, n_sub, n_tn, n_ltT, n_ltF, n_leT, n_leF, n_eqT, n_eqF, n_div, n_ixT, n_ixF, n_not, n_md, n_dec, n_and1, n_and3, n_and7, n_and15, n_and31, n_and63, Nat.mod_eq_of_lt, Nat.zero_add, Nat.add_zero, Nat.zero_mul, Nat.sub_zero, not_false_eq_true, not_true_eq_false, upd_at, upd_ne, c1])  | (with_reducible refine s_bd eO' ?_) | (with_reducible refine s_bd2 e0' ?_) | (with_reducible refine s_bd w0 ?_) | (with_reducible refine s_bd2 e1' ?_) | ((with_reducible refine s_neg ?_ ?_); · exact Int32.not_lt.mpr c2) | (with_reducible refine s_bd c3' ?_)
      refine s_bd eg ?_
      refine s_bd w1 ?_
      rfl
    · repeat first | (with_reducible refine s_nmj1 ?_) | (with_reducible refine s_nmj2 ?_) | ((with_reducible refine s_nm ?_); intro y_ hy_; (try simp (disch := omega) only [n_lit, n_add, n_mul, n_sub, n_tn, n_ltT, n_ltF, n_leT, n_leF, n_eqT, n_eqF, n_div, n_ixT, n_ixF, n_not, n_md, n_dec, n_and1, n_and3, n_and7, n_and15, n_and31, n_and63, Nat.mod_eq_of_lt, Nat.zero_add, Nat.add_zero, Nat.zero_mul, Nat.sub_zero, not_false_eq_true, not_true_eq_false, upd_at, upd_ne, c3] at hy_); subst hy_) | ((with_reducible refine s_pos ?_ ?_); · simp (disch := omega) only [n_lit, n_add, n_mul, n_sub, n_tn, n_ltT, n_ltF, n_leT, n_leF, n_eqT, n_eqF, n_div, n_ixT, n_ixF, n_not, n_md, n_dec, n_and1, n_and3, n_and7, n_and15, n_and31, n_and63, Nat.mod_eq_of_lt, Nat.zero_add, Nat.add_zero, Nat.zero_mul, Nat.sub_zero, not_false_eq_true, not_true_eq_false, upd_at, upd_ne, c3]) | ((with_reducible refine s_neg ?_ ?_); · simp (disch := omega) only [n_lit, n_add, n_mul, n_sub, n_tn, n_ltT, n_ltF, n_leT, n_leF, n_eqT, n_eqF, n_div, n_ixT, n_ixF, n_not, n_md, n_dec, n_and1, n_and3, n_and7, n_and15, n_and31, n_and63, Nat.mod_eq_of_lt, Nat.zero_add, Nat.add_zero, Nat.zero_mul, Nat.sub_zero, not_false_eq_true, not_true_eq_false, upd_at, upd_ne, c3])  | (with_reducible refine s_bd eO' ?_) | (with_reducible refine s_bd2 e0' ?_) | (with_reducible refine s_bd w0 ?_) | (with_reducible refine s_bd2 e1' ?_)
      refine s_bd eg ?_
      refine s_bd w1 ?_
      rfl
  unfold f_M_readLine
  repeat first | (with_reducible refine s_nmj1 ?_) | (with_reducible refine s_nmj2 ?_) | ((with_reducible refine s_nm ?_); intro y_ hy_; (try simp (disch := omega) only [n_lit, n_add, n_mul, n_sub, n_tn, n_ltT, n_ltF, n_leT, n_leF, n_eqT, n_eqF, n_div, n_ixT, n_ixF, n_not, n_md, n_dec, n_and1, n_and3, n_and7, n_and15, n_and31, n_and63, Nat.mod_eq_of_lt, Nat.zero_add, Nat.add_zero, Nat.zero_mul, Nat.sub_zero, not_false_eq_true, not_true_eq_false, upd_at, upd_ne, h0, h1] at hy_); subst hy_) | ((with_reducible refine s_pos ?_ ?_); · simp (disch := omega) only [n_lit, n_add, n_mul, n_sub, n_tn, n_ltT, n_ltF, n_leT, n_leF, n_eqT, n_eqF, n_div, n_ixT, n_ixF, n_not, n_md, n_dec, n_and1, n_and3, n_and7, n_and15, n_and31, n_and63, Nat.mod_eq_of_lt, Nat.zero_add, Nat.add_zero, Nat.zero_mul, Nat.sub_zero, not_false_eq_true, not_true_eq_false, upd_at, upd_ne, h0, h1]) | ((with_reducible refine s_neg ?_ ?_); · simp (disch := omega) only [n_lit, n_add, n_mul, n_sub, n_tn, n_ltT, n_ltF, n_leT, n_leF, n_eqT, n_eqF, n_div, n_ixT, n_ixF, n_not, n_md, n_dec, n_and1, n_and3, n_and7, n_and15, n_and31, n_and63, Nat.mod_eq_of_lt, Nat.zero_add, Nat.add_zero, Nat.zero_mul, Nat.sub_zero, not_false_eq_true, not_true_eq_false, upd_at, upd_ne, h0, h1])  | (with_reducible refine s_bd eS ?_)
  rfl
theorem C_partH {v : T_Rd} {pr : T_Pg} {V0 : Nat} (hV0 : V0 ≤ 8) (h0 : Rd_parts v 0 = NN V0) :
    (∀ V, V0 + 1 ≤ V → V ≤ 9 → Rd_token v = NN 2 → Rd_value v = NN V → f_Rd_readPart v pr (NN 104) (NN 1) = some (pR v (upd (Rd_parts v) 1 (NN V)))) ∧
    (∀ V, V ≤ 100000 → (V < V0 + 1 ∨ (V0 + 1 ≤ V ∧ 9 < V)) → Rd_token v = NN 2 → Rd_value v = NN V → f_Rd_readPart v pr (NN 104) (NN 1) = some (wR v (NN 2) (Rd_place v))) ∧
    (∀ t, t ≠ 2 → t < 10 → Rd_token v = NN t → f_Rd_readPart v pr (NN 104) (NN 1) = some (wR v (NN 1) (Rd_place v))) := by
  have b1 : f_Rd_least v (NN 104) = some (NN (V0 + 1)) := by
    unfold f_Rd_least
    repeat first | (with_reducible refine s_nmj1 ?_) | (with_reducible refine s_nmj2 ?_) | ((with_reducible refine s_nm ?_); intro y_ hy_; (try simp (disch := omega) only [n_lit, n_add, n_mul, n_sub, n_tn, n_ltT, n_ltF, n_leT, n_leF, n_eqT, n_eqF, n_div, n_ixT, n_ixF, n_not, n_md, n_dec, n_and1, n_and3, n_and7, n_and15, n_and31, n_and63, Nat.mod_eq_of_lt, Nat.zero_add, Nat.add_zero, Nat.zero_mul, Nat.sub_zero, not_false_eq_true, not_true_eq_false, upd_at, upd_ne] at hy_); subst hy_) | ((with_reducible refine s_pos ?_ ?_); · simp (disch := omega) only [n_lit, n_add, n_mul, n_sub, n_tn, n_ltT, n_ltF, n_leT, n_leF, n_eqT, n_eqF, n_div, n_ixT, n_ixF, n_not, n_md, n_dec, n_and1, n_and3, n_and7, n_and15, n_and31, n_and63, Nat.mod_eq_of_lt, Nat.zero_add, Nat.add_zero, Nat.zero_mul, Nat.sub_zero, not_false_eq_true, not_true_eq_false, upd_at, upd_ne]) | ((with_reducible refine s_neg ?_ ?_); · simp (disch := omega) only [n_lit, n_add, n_mul, n_sub, n_tn, n_ltT, n_ltF, n_leT, n_leF, n_eqT, n_eqF, n_div, n_ixT, n_ixF, n_not, n_md, n_dec, n_and1, n_and3, n_and7, n_and15, n_and31, n_and63, Nat.mod_eq_of_lt, Nat.zero_add, Nat.add_zero, Nat.zero_mul, Nat.sub_zero, not_false_eq_true, not_true_eq_false, upd_at, upd_ne]) 
    simp (disch := omega) only [n_lit, n_add, n_mul, n_sub, n_tn, n_ltT, n_ltF, n_leT, n_leF, n_eqT, n_eqF, n_div, n_ixT, n_ixF, n_not, n_md, n_dec, n_and1, n_and3, n_and7, n_and15, n_and31, n_and63, Nat.mod_eq_of_lt, Nat.zero_add, Nat.add_zero, Nat.zero_mul, Nat.sub_zero, not_false_eq_true, not_true_eq_false, upd_at, upd_ne, h0]
  have b2 : f_Rd_greatest (NN 104) = some (NN 9) := rfl
  refine ⟨fun V v1 v2 h1 h2 => ?_, fun V v1 v2 h1 h2 => ?_, fun t t1 t2 h1 => ?_⟩
  · unfold f_Rd_readPart
    repeat first | (with_reducible refine s_nmj1 ?_) | (with_reducible refine s_nmj2 ?_) | ((with_reducible refine s_nm ?_); intro y_ hy_; (try simp (disch := omega) only [n_lit, n_add, n_mul, n_sub, n_tn, n_ltT, n_ltF, n_leT, n_leF, n_eqT, n_eqF, n_div, n_ixT, n_ixF, n_not, n_md, n_dec, n_and1, n_and3, n_and7, n_and15, n_and31, n_and63, Nat.mod_eq_of_lt, Nat.zero_add, Nat.add_zero, Nat.zero_mul, Nat.sub_zero, not_false_eq_true, not_true_eq_false, upd_at, upd_ne, h1, h2, or0] at hy_); subst hy_) | ((with_reducible refine s_pos ?_ ?_); · simp (disch := omega) only [n_lit, n_add, n_mul, n_sub, n_tn, n_ltT, n_ltF, n_leT, n_leF, n_eqT, n_eqF, n_div, n_ixT, n_ixF, n_not, n_md, n_dec, n_and1, n_and3, n_and7, n_and15, n_and31, n_and63, Nat.mod_eq_of_lt, Nat.zero_add, Nat.add_zero, Nat.zero_mul, Nat.sub_zero, not_false_eq_true, not_true_eq_false, upd_at, upd_ne, h1, h2, or0]) | ((with_reducible refine s_neg ?_ ?_); · simp (disch := omega) only [n_lit, n_add, n_mul, n_sub, n_tn, n_ltT, n_ltF, n_leT, n_leF, n_eqT, n_eqF, n_div, n_ixT, n_ixF, n_not, n_md, n_dec, n_and1, n_and3, n_and7, n_and15, n_and31, n_and63, Nat.mod_eq_of_lt, Nat.zero_add, Nat.add_zero, Nat.zero_mul, Nat.sub_zero, not_false_eq_true, not_true_eq_false, upd_at, upd_ne, h1, h2, or0])  | (with_reducible refine s_bd b1 ?_) | (with_reducible refine s_bd b2 ?_)
    rfl
  · unfold f_Rd_readPart
    rcases v2 with v2 | v2
    · repeat first | (with_reducible refine s_nmj1 ?_) | (with_reducible refine s_nmj2 ?_) | ((with_reducible refine s_nm ?_); intro y_ hy_; (try simp (disch := omega) only [n_lit, n_add, n_mul, n_sub, n_tn, n_ltT, n_ltF, n_leT, n_leF, n_eqT, n_eqF, n_div, n_ixT, n_ixF, n_not, n_md, n_dec, n_and1, n_and3, n_and7, n_and15, n_and31, n_and63, Nat.mod_eq_of_lt, Nat.zero_add, Nat.add_zero, Nat.zero_mul, Nat.sub_zero, not_false_eq_true, not_true_eq_false, upd_at, upd_ne, h1, h2] at hy_); subst hy_) | ((with_reducible refine s_pos ?_ ?_); · simp (disch := omega) only [n_lit, n_add, n_mul, n_sub, n_tn, n_ltT, n_ltF, n_leT, n_leF, n_eqT, n_eqF, n_div, n_ixT, n_ixF, n_not, n_md, n_dec, n_and1, n_and3, n_and7, n_and15, n_and31, n_and63, Nat.mod_eq_of_lt, Nat.zero_add, Nat.add_zero, Nat.zero_mul, Nat.sub_zero, not_false_eq_true, not_true_eq_false, upd_at, upd_ne, h1, h2]) | ((with_reducible refine s_neg ?_ ?_); · simp (disch := omega) only [n_lit, n_add, n_mul, n_sub, n_tn, n_ltT, n_ltF, n_leT, n_leF, n_eqT, n_eqF, n_div, n_ixT, n_ixF, n_not, n_md, n_dec, n_and1, n_and3, n_and7, n_and15, n_and31, n_and63, Nat.mod_eq_of_lt, Nat.zero_add, Nat.add_zero, Nat.zero_mul, Nat.sub_zero, not_false_eq_true, not_true_eq_false, upd_at, upd_ne, h1, h2])  | (with_reducible refine s_bd b1 ?_) | (with_reducible refine s_bd b2 ?_) | (with_reducible refine s_bd (C_fail _ _ _) ?_)
      rfl
    · repeat first | (with_reducible refine s_nmj1 ?_) | (with_reducible refine s_nmj2 ?_) | ((with_reducible refine s_nm ?_); intro y_ hy_; (try simp (disch := omega) only [n_lit, n_add, n_mul, n_sub, n_tn, n_ltT, n_ltF, n_leT, n_leF, n_eqT, n_eqF, n_div, n_ixT, n_ixF, n_not, n_md, n_dec, n_and1, n_and3, n_and7, n_and15, n_and31, n_and63, Nat.mod_eq_of_lt, Nat.zero_add, Nat.add_zero, Nat.zero_mul, Nat.sub_zero, not_false_eq_true, not_true_eq_false, upd_at, upd_ne, h1, h2] at hy_); subst hy_) | ((with_reducible refine s_pos ?_ ?_); · simp (disch := omega) only [n_lit, n_add, n_mul, n_sub, n_tn, n_ltT, n_ltF, n_leT, n_leF, n_eqT, n_eqF, n_div, n_ixT, n_ixF, n_not, n_md, n_dec, n_and1, n_and3, n_and7, n_and15, n_and31, n_and63, Nat.mod_eq_of_lt, Nat.zero_add, Nat.add_zero, Nat.zero_mul, Nat.sub_zero, not_false_eq_true, not_true_eq_false, upd_at, upd_ne, h1, h2]) | ((with_reducible refine s_neg ?_ ?_); · simp (disch := omega) only [n_lit, n_add, n_mul, n_sub, n_tn, n_ltT, n_ltF, n_leT, n_leF, n_eqT, n_eqF, n_div, n_ixT, n_ixF, n_not, n_md, n_dec, n_and1, n_and3, n_and7, n_and15, n_and31, n_and63, Nat.mod_eq_of_lt, Nat.zero_add, Nat.add_zero, Nat.zero_mul, Nat.sub_zero, not_false_eq_true, not_true_eq_false, upd_at, upd_ne, h1, h2])  | (with_reducible refine s_bd b1 ?_) | (with_reducible refine s_bd b2 ?_) | (with_reducible refine s_bd (C_fail _ _ _) ?_)
      rfl
  · unfold f_Rd_readPart
    repeat first | (with_reducible refine s_nmj1 ?_) | (with_reducible refine s_nmj2 ?_) | ((with_reducible refine s_nm ?_); intro y_ hy_; (try simp (disch := omega) only [n_lit, n_add, n_mul, n_sub, n_tn, n_ltT, n_ltF, n_leT, n_leF, n_eqT, n_eqF, n_div, n_ixT, n_ixF, n_not, n_md, n_dec, n_and1, n_and3, n_and7, n_and15, n_and31, n_and63, Nat.mod_eq_of_lt, Nat.zero_add, Nat.add_zero, Nat.zero_mul, Nat.sub_zero, not_false_eq_true, not_true_eq_false, upd_at, upd_ne, h1] at hy_); subst hy_) | ((with_reducible refine s_pos ?_ ?_); · simp (disch := omega) only [n_lit, n_add, n_mul, n_sub, n_tn, n_ltT, n_ltF, n_leT, n_leF, n_eqT, n_eqF, n_div, n_ixT, n_ixF, n_not, n_md, n_dec, n_and1, n_and3, n_and7, n_and15, n_and31, n_and63, Nat.mod_eq_of_lt, Nat.zero_add, Nat.add_zero, Nat.zero_mul, Nat.sub_zero, not_false_eq_true, not_true_eq_false, upd_at, upd_ne, h1]) | ((with_reducible refine s_neg ?_ ?_); · simp (disch := omega) only [n_lit, n_add, n_mul, n_sub, n_tn, n_ltT, n_ltF, n_leT, n_leF, n_eqT, n_eqF, n_div, n_ixT, n_ixF, n_not, n_md, n_dec, n_and1, n_and3, n_and7, n_and15, n_and31, n_and63, Nat.mod_eq_of_lt, Nat.zero_add, Nat.add_zero, Nat.zero_mul, Nat.sub_zero, not_false_eq_true, not_true_eq_false, upd_at, upd_ne, h1])  | (with_reducible refine s_bd (C_fail _ _ _) ?_)
    rfl
theorem h_step {T : Nat → Nat} {n : Nat} {rd : T_Rd} {m : T_M} {pl q V0 : Nat} (h : AH T n rd m pl q) (pr : T_Pg) (hV0 : V0 ≤ 8) (h0 : Rd_parts rd 0 = NN V0) (hs : Rd_sorts rd 4 = NN 104) :
    (∃ rd1 v13 V pl' q', V0 < V ∧ V ≤ 9 ∧ cst pr (NN 1) (NN 1) rd = some rd1 ∧ f_M_numberAtHand m (NN 1) (NN 9) = some (NN V, m) ∧ M_fault (M_rd m) = NN 0 ∧ f_M_goOn m = some v13 ∧ AH T n rd1 v13 pl' q' ∧ pl ≤ pl' ∧ FR1 rd rd1 ∧ FM1 m v13 ∧ Rd_parts rd1 = upd (Rd_parts rd) 1 (NN V) ∧ Rd_wantedPlaces rd1 = Rd_wantedPlaces rd ∧ Rd_toldData rd1 = Rd_toldData rd ∧ M_cd v13 = M_cd m ∧ M_hasData (M_rd v13) = M_hasData (M_rd m)) ∨
    (∃ rd1 v9 v11 r8, cst pr (NN 1) (NN 1) rd = some rd1 ∧ f_M_numberAtHand m (NN 1) (NN 9) = some (r8, v9) ∧ ((M_fault (M_rd v9) = NN 0 ∧ r8 ≤ NN V0 ∧ f_M_wrong v9 (NN 2) = some v11) ∨ (∃ f, f ≠ 0 ∧ f < 10 ∧ M_fault (M_rd v9) = NN f ∧ v11 = v9)) ∧ f_M_goOn v11 = some v11 ∧ BD T n rd1 v11 ∧ FR1 rd rd1 ∧ FM1 m v11 ∧ M_cd v11 = M_cd m) := by
  obtain ⟨pos, tok, val, place, e1, hA⟩ := h
  have hA' := hA
  obtain ⟨h1, h2, h3, h4, h5, h6, h7, h8, h9, h10⟩ := hA'
  have hf : Rd_fault rd = NN 0 := h1
  obtain ⟨n1, n2, n3⟩ := M_nah (m := m) (lo := 1) (hi := 9) (by omega) (by omega) h2
  obtain ⟨p1, p2, p3⟩ := C_partH (v := tR rd pos tok val place) (pr := pr) hV0 h0
  rcases TK_num (lo := V0 + 1) (hi := 9) h10 (by omega) (by omega) with ⟨V, v1, v2, v3, v4, v5, v6, v7⟩ | ⟨V, W, v1, v2, v3, v4, v5, v6, v7⟩ | ⟨t, s', v1, v2, v3, v4, v5, v6⟩
  · obtain ⟨q', pl', sort', value', g1, g2, g3⟩ := AT_goOn hA
    exact Or.inl ⟨_, _, V, pl', q', by omega, v2, cst_go (w := 1) (k := 1) (by omega) (by omega) hf hs ⟨by omega, by omega⟩ e1 (p1 V v1 v2 v3 v4), n1 V (by omega) v2 v5 v6, h2, g1, g2 _ (TP_C h3) h6 h1, by omega, ⟨rfl, rfl, rfl, rfl, rfl, rfl⟩, ⟨rfl, rfl, rfl, rfl, rfl, rfl, rfl, rfl, rfl⟩, rfl, rfl, rfl, rfl, rfl⟩
  · have hc := cst_go (pr := pr) (w := 1) (k := 1) (by omega) (by omega) hf hs ⟨by omega, by omega⟩ e1 (p2 V v1 (by omega) v3 v4)
    refine Or.inr ?_
    by_cases g : W < 1 ∨ (1 ≤ W ∧ 9 < W)
    · exact ⟨_, _, _, NN 1, hc, n2 W v2 g v5 v6, Or.inr ⟨2, by omega, by omega, rfl, rfl⟩, M_goOnB (f := 2) rfl (by omega), AT_bad hA (f := 2) (by omega), ⟨rfl, rfl, rfl, rfl, rfl, rfl⟩, ⟨rfl, rfl, rfl, rfl, rfl, rfl, rfl, rfl, rfl⟩, rfl⟩
    · exact ⟨_, m, wM m (NN 2) (M_place (M_rd m)), NN W, hc, n1 W (by omega) (by omega) v5 v6, Or.inl ⟨h2, by rw [n_le (by omega) (by omega)]; omega, M_wrong0 h2 (NN 2)⟩, M_goOnB (f := 2) rfl (by omega), AT_bad hA (f := 2) (by omega), ⟨rfl, rfl, rfl, rfl, rfl, rfl⟩, ⟨rfl, rfl, rfl, rfl, rfl, rfl, rfl, rfl, rfl⟩, rfl⟩
  · have hc := cst_go (pr := pr) (w := 1) (k := 1) (by omega) (by omega) hf hs ⟨by omega, by omega⟩ e1 (p3 t v1 v3 v5)
    exact Or.inr ⟨_, _, _, NN 1, hc, n3 s' v2 v4 v6, Or.inr ⟨1, by omega, by omega, rfl, rfl⟩, M_goOnB (f := 1) rfl (by omega), AT_bad hA (f := 1) (by omega), ⟨rfl, rfl, rfl, rfl, rfl, rfl⟩, ⟨rfl, rfl, rfl, rfl, rfl, rfl, rfl, rfl, rfl⟩, rfl⟩
set_option maxHeartbeats 4000000 in
theorem line_slack {T : Nat → Nat} {n : Nat} {rd : T_Rd} {pr : T_Pg} {m : T_M} {pl q sz nc : Nat} (hA : AT T n rd m pl q) (hwd : WD rd) (hsd : SD rd) (hD : DR rd pr m sz nc) (h1 : Rd_token rd = NN 1) (h2 : Rd_value rd = NN (WP 1)) (h3 : M_sort (M_rd m) = NN 0) (h4 : M_value (M_rd m) = NN 1) : LOK T n rd pr m pl sz nc ∨ LBAD T n rd pr m := by
  have hPL : PLN 108 0 8 := Or.inr (Or.inl ⟨rfl, rfl, rfl⟩)
  obtain ⟨x1, x2, x3, x4, x5, x6, x7, x8, x9, x10⟩ := id hA
  rcases hD.2.2.2.2.2.2.2.2.2.1 1 (by omega) with ht | ht
  · have hA2 : AT T n rd (oM m 1) pl q := hA
    obtain ⟨q', pl', sort', value', g1, g2, g3⟩ := AT_goOn hA2
    have eO := M_once0 (by omega : 1 < 5) ht g1
    have hA0 := g2 (pR rd (z3 (Rd_parts rd))) (TP_C x3) x6 x1
    have hb : tb (Rd_toldRules rd) 1 = NN 0 := by rw [hD.2.2.2.2.2.2.2.2.1 1 (by omega), if_pos (by omega), ht]
    have hC0 := C_head (pr := pr) hwd (by omega : 1 < 25) h1 h2 hb hD.1.1 hD.1.2.2 (Or.inl (by omega))
    rcases num_step hA0 pr (w := 1) (k := 0) (by omega) (by omega) (hsd 3 (by omega)) hPL with ⟨r0, a0, V0, pl0, q0, v0, v0', c0, n0, A0, lt0, le0, fr0, fm0, p0, wa0, td0, cd0, hd0⟩ | ⟨r0, a0, c0, n0, B0, fr0, fm0, cd0, hd0⟩
    · have hA1 : AH T n r0 (sN a0 1 (NN V0)) pl0 q0 := A0
      rcases h_step hA1 pr v0' (by rw [p0]; exact upd_at rfl) ((congrFun fr0.2.2.2.1 _).trans (hsd 4 (by omega))) with ⟨r1, v13, V1, pl1, q1, u1, u2, c1, e1, hf0, eg, A1, le1, fr1, fm1, p1, wa1, td1, cd1, hd1⟩ | ⟨r1, v9, v11, r8, c1, e1, hcc, eg, B1, fr1, fm1, cd1⟩
      · have fr01 := FR1_trans fr0 fr1
        have k2 := cst_skip (pr := pr) (w := 1) (k := 2) (v := r1) (by omega) (by omega) ((congrFun fr01.2.2.2.1 _).trans (hsd 5 (by omega)))
        rw [c0, bd_some, c1, bd_some, k2, bd_some] at hC0
        have hM := M_lineS h3 h4 eO n0 e1 (Or.inl ⟨hf0, by rw [n_lt (by omega) (by omega)]; exact u1, rfl⟩) eg
        have hcd : M_cd (sN v13 2 (NN V1)) = nC (M_cd m) (upd (upd (M_number (M_cd m)) 11 (NN V0)) 12 (NN V1)) := by
          show nC (M_cd v13) (upd (M_number (M_cd v13)) 12 (NN V1)) = _
          rw [cd1]
          show nC (M_cd a0) (upd (upd (M_number (M_cd a0)) 11 (NN V0)) 12 (NN V1)) = _
          rw [cd0]; rfl
        refine set_good (w := 1) (by omega) hD hsd hC0 hM A1 (by omega) fr01 (wa1.trans wa0) (td1.trans td0) (FM1_trans fm0 fm1) (hd1.trans hd0) _ hcd (fun j hj => by rw [upd_ne (by omega), upd_ne (by omega)]) (fun k hk => ?_)
        have q0' : Rd_parts r1 0 = NN V0 := by rw [p1, upd_ne (by omega), p0, upd_at rfl]
        have q1' : Rd_parts r1 1 = NN V1 := by rw [p1, upd_at rfl]
        have eR : setR 1 (Pg_rules pr) (Rd_parts r1) = upd (upd (Pg_rules pr) 1 (NN V0)) 2 (NN V1) := by
          unfold setR
          rw [if_neg (by omega), if_pos rfl, q0', q1']
        rw [eR]
        by_cases k1 : k = 1
        · subst k1
          exact ⟨V0, by refine ⟨?_, ?_, ?_, ?_, ?_, ?_⟩ <;> omega, by rw [upd_ne (by omega), upd_at rfl], by rw [upd_ne (by omega), upd_at rfl]⟩
        · by_cases k2 : k = 2
          · subst k2
            exact ⟨V1, by refine ⟨?_, ?_, ?_, ?_, ?_, ?_⟩ <;> omega, by rw [upd_at rfl], by rw [upd_at rfl]⟩
          · obtain ⟨r, y1, y2, y3⟩ := hD.2.2.2.1 k hk
            exact ⟨r, y1, by rw [upd_ne k2, upd_ne k1]; exact y2, by rw [upd_ne (by omega), upd_ne (by omega)]; exact y3⟩
      · obtain ⟨f, hf, z1, z2⟩ := BD_fault B1
        rw [c0, bd_some, c1, bd_some, cst_bad z1 hf, bd_some] at hC0
        have hM := M_lineS h3 h4 eO n0 e1 (Or.inr hcc) eg
        obtain ⟨f1, f2, f3, f4, f5, f6⟩ := FR1_trans fr0 fr1
        obtain ⟨m1', m2', m3', m4', m5', m6', m7', m8', m9'⟩ := FM1_trans fm0 fm1
        refine Or.inr (bad_end hC0 hM B1 ⟨⟨f1, f2, f3, f4, f5⟩, ⟨m1', m2', m3', m4', m5', m6', m7'⟩, ?_⟩)
        show LOW (M_cd m) (nC (M_cd v11) (upd (M_number (M_cd v11)) 12 r8))
        rw [cd1]
        show LOW (M_cd m) (nC (M_cd a0) (upd (upd (M_number (M_cd a0)) 11 (NN V0)) 12 r8))
        rw [cd0]
        exact LOW_n fun k hk => by rw [upd_ne (by omega), upd_ne (by omega)]; rfl
    · obtain ⟨f, hf, z1, z2⟩ := BD_fault B0
      rw [c0, bd_some, cst_bad z1 hf, bd_some, cst_bad z1 hf, bd_some] at hC0
      have e1 := (M_nahB (m := sN a0 1 (NN 0)) z2 hf (NN 1) (NN 9)).1
      have hM := M_lineS h3 h4 eO n0 e1 (Or.inr (Or.inr ⟨f, hf.1, hf.2, z2, rfl⟩)) (M_goOnB z2 hf)
      obtain ⟨f1, f2, f3, f4, f5, f6⟩ := fr0
      obtain ⟨m1', m2', m3', m4', m5', m6', m7', m8', m9'⟩ := fm0
      refine Or.inr (bad_end hC0 hM B0 ⟨⟨f1, f2, f3, f4, f5⟩, ⟨m1', m2', m3', m4', m5', m6', m7'⟩, ?_⟩)
      show LOW (M_cd m) (nC (M_cd a0) (upd (upd (M_number (M_cd a0)) 11 (NN 0)) 12 (NN 1)))
      rw [cd0]
      exact LOW_n fun k hk => by rw [upd_ne (by omega), upd_ne (by omega)]; rfl
  · have eO := M_once1 (by omega : 1 < 5) x2 ht
    have n0 := (M_nahB (m := oM (wM m (NN 3) (M_place (M_rd m))) 1) (f := 3) rfl (by omega) (NN 0) (NN 8)).2
    have e1 := (M_nahB (m := sN (oM (wM m (NN 3) (M_place (M_rd m))) 1) 1 (NN 0)) (f := 3) rfl (by omega) (NN 1) (NN 9)).1
    exact Or.inr (told_bad hA hwd hD (by omega) h1 h2 ht (M_lineS h3 h4 eO n0 e1 (Or.inr (Or.inr ⟨3, by omega, by omega, rfl, rfl⟩)) (M_goOnB (f := 3) rfl (by omega))) rfl ⟨rfl, rfl, rfl, rfl, rfl, rfl, rfl⟩ (LOW_n (c := M_cd m) (N := upd (upd (M_number (M_cd m)) 11 (NN 0)) 12 (NN 1)) fun k hk => by rw [upd_ne (by omega), upd_ne (by omega)]))
