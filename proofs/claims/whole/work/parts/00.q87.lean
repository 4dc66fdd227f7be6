/-! LINES: data -/
abbrev hM (m : T_M) (h : Nat → Int32) (cd : T_Mc) : T_M := ((M_tp m), ((M_lines (M_rd m)), (M_size (M_rd m)), (M_at (M_rd m)), (M_place (M_rd m)), (M_sort (M_rd m)), (M_value (M_rd m)), (M_fault (M_rd m)), (M_faultPlace (M_rd m)), (M_isTold (M_rd m)), h), (M_lf m), cd, (M_rn m), (M_ex m), (M_im m), (M_al m), (M_thrown m))
abbrev dC (c : T_Mc) (D : Nat → Int32) : T_Mc := ((M_number c), (M_codeSort c), (M_codeA c), (M_codeB c), (M_codeC c), (M_codeName c), (M_codePlace c), (M_codeTo c), (M_labelName c), (M_labelAt c), D)
abbrev dM (v : T_M) (V : Nat) (r : Int32) : T_M := hM v (upd (M_hasData (M_rd v)) V (NN 1)) (dC (M_cd v) (upd (M_data (M_cd v)) (32 + V) r))
theorem M_lineD {m v1 v4 m3 : T_M} {r3 : Int32} (h0 : M_sort (M_rd m) = NN 0) (h1 : M_value (M_rd m) = NN 5) (eg : f_M_goOn m = some v1) (e1 : f_M_numberAtHand v1 (NN 0) (NN 31) = some (r3, v4))
    (hc : (∃ V v8 v11 r, M_fault (M_rd v4) = NN 0 ∧ V < 32 ∧ r3 = NN V ∧ M_hasData (M_rd v4) V = NN 0 ∧ f_M_goOn v4 = some v8 ∧ f_M_numeral v8 (NN 0) (NN 99999) = some (r, v11) ∧ ((M_fault (M_rd v11) = NN 0 ∧ m3 = dM v11 V r) ∨ (∃ f, f ≠ 0 ∧ f < 10 ∧ M_fault (M_rd v11) = NN f ∧ m3 = v11))) ∨
      (∃ V, M_fault (M_rd v4) = NN 0 ∧ V < 32 ∧ r3 = NN V ∧ M_hasData (M_rd v4) V = NN 1 ∧ m3 = wM v4 (NN 3) (M_place (M_rd v4))) ∨ (∃ f, f ≠ 0 ∧ f < 10 ∧ M_fault (M_rd v4) = NN f ∧ m3 = v4)) : f_M_readLine m = ML m3 := by
  have e1' : f_M_numberAtHand v1 (0 : Int32) (31 : Int32) = some (r3, v4) := e1
  have eD : f_M_readData m = some m3 := by
    unfold f_M_readData
    rcases hc with ⟨V, v8, v11, r, c1, c2, rfl, c3, c4, c5, c6⟩ | ⟨V, c1, c2, rfl, c3, rfl⟩ | ⟨f, c1, c2, c3, rfl⟩
    · have c5' : f_M_numeral v8 (0 : Int32) (99999 : Int32) = some (r, v11) := c5
      rcases c6 with ⟨d1, rfl⟩ | ⟨f, d1, d2, d3, rfl⟩
      · repeat first | (with_reducible refine s_nmj1 ?_) | (with_reducible refine s_nmj2 ?_) | ((with_reducible refine s_nm ?_); intro y_ hy_; (try simp (disch := omega) only [n_lit, n_add, n_mul, n_sub, n_tn, n_ltT, n_ltF, n_leT, n_leF, n_eqT, n_eqF, n_div, n_ixT, n_ixF, n_not, n_md, n_dec, n_and1, n_and3, n_and7, n_and15, n_and31, n_and63, Nat.mod_eq_of_lt, Nat.zero_add, Nat.add_zero, Nat.zero_mul, Nat.sub_zero, not_false_eq_true, not_true_eq_false, upd_at, upd_ne, c1, c3, d1] at hy_); subst hy_) | ((with_reducible refine s_pos ?_ ?_); · simp (disch := omega) only [n_lit, n_add, n_mul, n_sub, n_tn, n_ltT, n_ltF, n_leT, n_leF, n_eqT, n_eqF, n_div, n_ixT, n_ixF, n_not, n_md, n_dec, n_and1, n_and3, n_and7, n_and15, n_and31, n_and63, Nat.mod_eq_of_lt, Nat.zero_add, Nat.add_zero, Nat.zero_mul, Nat.sub_zero, not_false_eq_true, not_true_eq_false, upd_at, upd_ne, c1, c3, d1]) | ((with_reducible refine s_neg ?_ ?_); · simp (disch := omega) only [n_lit, n_add, n_mul, n_sub, n_tn, n_ltT, n_ltF, n_leT, n_leF, n_eqT, n_eqF, n_div, n_ixT, n_ixF, n_not, n_md, n_dec, n_and1, n_and3, n_and7, n_and15, n_and31, n_and63, Nat.mod_eq_of_lt, Nat.zero_add, Nat.add_zero, Nat.zero_mul, Nat.sub_zero, not_false_eq_true, not_true_eq_false, upd_at, upd_ne, c1, c3, d1])  | (with_reducible refine s_bd eg ?_) | (with_reducible refine s_bd2 e1' ?_) | (with_reducible refine s_bd c4 ?_) | (with_reducible refine s_bd2 c5' ?_)
        rfl
      · repeat first | (with_reducible refine s_nmj1 ?_) | (with_reducible refine s_nmj2 ?_) | ((with_reducible refine s_nm ?_); intro y_ hy_; (try simp (disch := omega) only [n_lit, n_add, n_mul, n_sub, n_tn, n_ltT, n_ltF, n_leT, n_leF, n_eqT, n_eqF, n_div, n_ixT, n_ixF, n_not, n_md, n_dec, n_and1, n_and3, n_and7, n_and15, n_and31, n_and63, Nat.mod_eq_of_lt, Nat.zero_add, Nat.add_zero, Nat.zero_mul, Nat.sub_zero, not_false_eq_true, not_true_eq_false, upd_at, upd_ne, c1, c3, d3] at hy_); subst hy_) | ((with_reducible refine s_pos ?_ ?_); · simp (disch := omega) only [n_lit, n_add, n_mul, n_sub, n_tn, n_ltT, n_ltF, n_leT, n_leF, n_eqT, n_eqF, n_div, n_ixT, n_ixF, n_not, n_md, n_dec, n_and1, n_and3, n_and7, n_and15, n_and31, n_and63, Nat.mod_eq_of_lt, Nat.zero_add, Nat.add_zero, Nat.zero_mul, Nat.sub_zero, not_false_eq_true, not_true_eq_false, upd_at, upd_ne, c1, c3, d3]) | ((with_reducible refine s_neg ?_ ?_); · simp (disch := omega) only [n_lit, n_add, n_mul, n_sub, n_tn, n_ltT, n_ltF, n_leT, n_leF, n_eqT, n_eqF, n_div, n_ixT, n_ixF, n_not, n_md, n_dec, n_and1, n_and3, n_and7, n_and15, n_and31, n_and63, Nat.mod_eq_of_lt, Nat.zero_add, Nat.add_zero, Nat.zero_mul, Nat.sub_zero, not_false_eq_true, not_true_eq_false, upd_at, upd_ne, c1, c3, d3])  | (with_reducible refine s_bd eg ?_) | (with_reducible refine s_bd2 e1' ?_) | (with_reducible refine s_bd c4 ?_) | (with_reducible refine s_bd2 c5' ?_)
        rfl
    · have w1 : f_M_wrong v4 (3 : Int32) = some (wM v4 (NN 3) (M_place (M_rd v4))) := M_wrong0 c1 (NN 3)
      have w2 : f_M_goOn (wM v4 (NN 3) (M_place (M_rd v4))) = some (wM v4 (NN 3) (M_place (M_rd v4))) := M_goOnB (f := 3) rfl (by omega)
      have w3 : f_M_numeral (wM v4 (NN 3) (M_place (M_rd v4))) (0 : Int32) (99999 : Int32) = some (NN 0, wM v4 (NN 3) (M_place (M_rd v4))) := (M_nahB (m := wM v4 (NN 3) (M_place (M_rd v4))) (f := 3) rfl (by omega) (NN 0) (NN 99999)).2
      have w4 : M_fault (M_rd (wM v4 (NN 3) (M_place (M_rd v4)))) = NN 3 := rfl
      repeat first | (with_reducible refine s_nmj1 ?_) | (with_reducible refine s_nmj2 ?_) | ((with_reducible refine s_nm ?_); intro y_ hy_; (try simp (disch := omega) only [n_lit, n_add, n_mul, n_sub, n_tn, n_ltT, n_ltF, n_leT, n_leF, n_eqT, n_eqF, n_div, n_ixT, n_ixF, n_not, n_md, n_dec, n_and1, n_and3, n_and7, n_and15, n_and31, n_and63, Nat.mod_eq_of_lt, Nat.zero_add, Nat.add_zero, Nat.zero_mul, Nat.sub_zero, not_false_eq_true, not_true_eq_false, upd_at, upd_ne, c1, c3, w4] at hy_); subst hy_) | ((with_reducible refine s_pos ?_ ?_); · simp (disch := omega) only [n_lit, n_add, n_mul, n_sub, n_tn, n_ltT, n_ltF, n_leT, n_leF, n_eqT, n_eqF, n_div, n_ixT, n_ixF, n_not, n_md, n_dec, n_and1, n_and3, n_and7, n_and15, n_and31, n_and63, Nat.mod_eq_of_lt, Nat.zero_add, Nat.add_zero, Nat.zero_mul, Nat.sub_zero, not_false_eq_true, not_true_eq_false, upd_at, upd_ne, c1, c3, w4]) | ((with_reducible refine s_neg ?_ ?_); · simp (disch := omega) only [n_lit, n_add, n_mul, n_sub, n_tn, n_ltT, n_ltF, n_leT, n_leF, n_eqT, n_eqF, n_div, n_ixT, n_ixF, n_not, n_md, n_dec, n_and1, n_and3, n_and7, n_and15, n_and31, n_and63, Nat.mod_eq_of_lt, Nat.zero_add, Nat.add_zero, Nat.zero_mul, Nat.sub_zero, not_false_eq_true, not_true_eq_false, upd_at, upd_ne, c1, c3, w4])  | (with_reducible refine s_bd eg ?_) | (with_reducible refine s_bd2 e1' ?_) | (with_reducible refine s_bd w1 ?_)
      refine s_bd w2 ?_
      repeat first | (with_reducible refine s_nmj1 ?_) | (with_reducible refine s_nmj2 ?_) | ((with_reducible refine s_nm ?_); intro y_ hy_; (try simp (disch := omega) only [n_lit, n_add, n_mul, n_sub, n_tn, n_ltT, n_ltF, n_leT, n_leF, n_eqT, n_eqF, n_div, n_ixT, n_ixF, n_not, n_md, n_dec, n_and1, n_and3, n_and7, n_and15, n_and31, n_and63, Nat.mod_eq_of_lt, Nat.zero_add, Nat.add_zero, Nat.zero_mul, Nat.sub_zero, not_false_eq_true, not_true_eq_false, upd_at, upd_ne, w4] at hy_); subst hy_) | ((with_reducible refine s_pos ?_ ?_); · simp (disch := omega) only [n_lit, n_add, n_mul, n_sub, n_tn, n_ltT, n_ltF, n_leT, n_leF, n_eqT, n_eqF, n_div, n_ixT, n_ixF, n_not, n_md, n_dec, n_and1, n_and3, n_and7, n_and15, n_and31, n_and63, Nat.mod_eq_of_lt, Nat.zero_add, Nat.add_zero, Nat.zero_mul, Nat.sub_zero, not_false_eq_true, not_true_eq_false, upd_at, upd_ne, w4]) | ((with_reducible refine s_neg ?_ ?_); · simp (disch := omega) only [n_lit, n_add, n_mul, n_sub, n_tn, n_ltT, n_ltF, n_leT, n_leF, n_eqT, n_eqF, n_div, n_ixT, n_ixF, n_not, n_md, n_dec, n_and1, n_and3, n_and7, n_and15, n_and31, n_and63, Nat.mod_eq_of_lt, Nat.zero_add, Nat.add_zero, Nat.zero_mul, Nat.sub_zero, not_false_eq_true, not_true_eq_false, upd_at, upd_ne, w4])  | (with_reducible refine s_bd2 w3 ?_)
      rfl
    · have w2 := M_goOnB c3 ⟨c1, c2⟩
      have w3 : f_M_numeral m3 (0 : Int32) (99999 : Int32) = some (NN 0, m3) := (M_nahB c3 ⟨c1, c2⟩ (NN 0) (NN 99999)).2
      repeat first | (with_reducible refine s_nmj1 ?_) | (with_reducible refine s_nmj2 ?_) | ((with_reducible refine s_nm ?_); intro y_ hy_; (try simp (disch := omega) only [n_lit, n_add, n_mul, n_sub, n_tn, n_ltT, n_ltF, n_leT, n_leF, n_eqT, n_eqF, n_div, n_ixT, n_ixF, n_not, n_md, n_dec, n_and1, n_and3, n_and7, n_and15, n_and31, n_and63, Nat.mod_eq_of_lt, Nat.zero_add, Nat.add_zero, Nat.zero_mul, Nat.sub_zero, not_false_eq_true, not_true_eq_false, upd_at, upd_ne, c3] at hy_); subst hy_) | ((with_reducible refine s_pos ?_ ?_); · simp (disch := omega) only [n_lit, n_add, n_mul, n_sub, n_tn, n_ltT, n_ltF, n_leT, n_leF, n_eqT, n_eqF, n_div, n_ixT, n_ixF, n_not, n_md, n_dec, n_and1, n_and3, n_and7, n_and15, n_and31, n_and63, Nat.mod_eq_of_lt, Nat.zero_add, Nat.add_zero, Nat.zero_mul, Nat.sub_zero, not_false_eq_true, not_true_eq_false, upd_at, upd_ne, c3]) | ((with_reducible refine s_neg ?_ ?_); · simp (disch := omega) only [n_lit, n_add, n_mul, n_sub, n_tn, n_ltT, n_ltF, n_leT, n_leF, n_eqT, n_eqF, n_div, n_ixT, n_ixF, n_not, n_md, n_dec, n_and1, n_and3, n_and7, n_and15, n_and31, n_and63, Nat.mod_eq_of_lt, Nat.zero_add, Nat.add_zero, Nat.zero_mul, Nat.sub_zero, not_false_eq_true, not_true_eq_false, upd_at, upd_ne, c3])  | (with_reducible refine s_bd eg ?_) | (with_reducible refine s_bd2 e1' ?_) | (with_reducible refine s_bd w2 ?_) | (with_reducible refine s_bd2 w3 ?_)
      rfl
  unfold f_M_readLine
  repeat first | (with_reducible refine s_nmj1 ?_) | (with_reducible refine s_nmj2 ?_) | ((with_reducible refine s_nm ?_); intro y_ hy_; (try simp (disch := omega) only [n_lit, n_add, n_mul, n_sub, n_tn, n_ltT, n_ltF, n_leT, n_leF, n_eqT, n_eqF, n_div, n_ixT, n_ixF, n_not, n_md, n_dec, n_and1, n_and3, n_and7, n_and15, n_and31, n_and63, Nat.mod_eq_of_lt, Nat.zero_add, Nat.add_zero, Nat.zero_mul, Nat.sub_zero, not_false_eq_true, not_true_eq_false, upd_at, upd_ne, h0, h1] at hy_); subst hy_) | ((with_reducible refine s_pos ?_ ?_); · simp (disch := omega) only [n_lit, n_add, n_mul, n_sub, n_tn, n_ltT, n_ltF, n_leT, n_leF, n_eqT, n_eqF, n_div, n_ixT, n_ixF, n_not, n_md, n_dec, n_and1, n_and3, n_and7, n_and15, n_and31, n_and63, Nat.mod_eq_of_lt, Nat.zero_add, Nat.add_zero, Nat.zero_mul, Nat.sub_zero, not_false_eq_true, not_true_eq_false, upd_at, upd_ne, h0, h1]) | ((with_reducible refine s_neg ?_ ?_); · simp (disch := omega) only [n_lit, n_add, n_mul, n_sub, n_tn, n_ltT, n_ltF, n_leT, n_leF, n_eqT, n_eqF, n_div, n_ixT, n_ixF, n_not, n_md, n_dec, n_and1, n_and3, n_and7, n_and15, n_and31, n_and63, Nat.mod_eq_of_lt, Nat.zero_add, Nat.add_zero, Nat.zero_mul, Nat.sub_zero, not_false_eq_true, not_true_eq_false, upd_at, upd_ne, h0, h1])  | (with_reducible refine s_bd eD ?_)
  rfl
def ptR (rd : T_Rd) (parts : Nat → Int32) (td : Int32) : T_Rd := ((Rd_tape rd), (Rd_filled rd), (Rd_fault rd), (Rd_faultPlace rd), (Rd_words rd), (Rd_sorts rd), parts, (Rd_wantedPlaces rd), (Rd_limit rd), (Rd_position rd), (Rd_token rd), (Rd_value rd), (Rd_place rd), (Rd_toldRules rd), td)
theorem C_partD {v : T_Rd} {pr : T_Pg} :
    (∀ V, V ≤ 31 → Rd_token v = NN 2 → Rd_value v = NN V → tb (Rd_toldData v) V = NN 0 → f_Rd_readPart v pr (NN 100) (NN 0) = some (ptR v (upd (Rd_parts v) 0 (NN V)) (Rd_toldData v ||| (NN 1 <<< NN V)))) ∧
    (∀ V, V ≤ 31 → Rd_token v = NN 2 → Rd_value v = NN V → tb (Rd_toldData v) V = NN 1 → f_Rd_readPart v pr (NN 100) (NN 0) = some (wR v (NN 3) (Rd_place v))) ∧
    (∀ V, V ≤ 100000 → 31 < V → Rd_token v = NN 2 → Rd_value v = NN V → f_Rd_readPart v pr (NN 100) (NN 0) = some (wR v (NN 2) (Rd_place v))) ∧
    (∀ t, t ≠ 2 → t < 10 → Rd_token v = NN t → f_Rd_readPart v pr (NN 100) (NN 0) = some (wR v (NN 1) (Rd_place v))) := by
  have b1 : f_Rd_least v (NN 100) = some (NN 0) := rfl
  have b2 : f_Rd_greatest (NN 100) = some (NN 31) := rfl
  refine ⟨fun V v1 h1 h2 h3 => ?_, fun V v1 h1 h2 h3 => ?_, fun V v1 v2 h1 h2 => ?_, fun t t1 t2 h1 => ?_⟩
  · have h3' : Rd_toldData v >>> NN V &&& NN 1 = NN 0 := h3
    unfold f_Rd_readPart
    repeat first | (with_reducible refine s_nmj1 ?_) | (with_reducible refine s_nmj2 ?_) | ((with_reducible refine s_nm ?_); intro y_ hy_; (try simp (disch := omega) only [n_lit, n_add, n_mul, n_sub, n_tn, n_ltT, n_ltF, n_leT, n_leF, n_eqT, n_eqF, n_div, n_ixT, n_ixF, n_not, n_md, n_dec, n_and1, n_and3, n_and7, n_and15, n_and31, n_and63, Nat.mod_eq_of_lt, Nat.zero_add, Nat.add_zero, Nat.zero_mul, Nat.sub_zero, not_false_eq_true, not_true_eq_false, upd_at, upd_ne, h1, h2, h3', Nat.mod_eq_of_lt] at hy_); subst hy_) | ((with_reducible refine s_pos ?_ ?_); · simp (disch := omega) only [n_lit, n_add, n_mul, n_sub, n_tn, n_ltT, n_ltF, n_leT, n_leF, n_eqT, n_eqF, n_div, n_ixT, n_ixF, n_not, n_md, n_dec, n_and1, n_and3, n_and7, n_and15, n_and31, n_and63, Nat.mod_eq_of_lt, Nat.zero_add, Nat.add_zero, Nat.zero_mul, Nat.sub_zero, not_false_eq_true, not_true_eq_false, upd_at, upd_ne, h1, h2, h3', Nat.mod_eq_of_lt]) | ((with_reducible refine s_neg ?_ ?_); · simp (disch := omega) only [n_lit, n_add, n_mul, n_sub, n_tn, n_ltT, n_ltF, n_leT, n_leF, n_eqT, n_eqF, n_div, n_ixT, n_ixF, n_not, n_md, n_dec, n_and1, n_and3, n_and7, n_and15, n_and31, n_and63, Nat.mod_eq_of_lt, Nat.zero_add, Nat.add_zero, Nat.zero_mul, Nat.sub_zero, not_false_eq_true, not_true_eq_false, upd_at, upd_ne, h1, h2, h3', Nat.mod_eq_of_lt])  | (with_reducible refine s_bd b1 ?_) | (with_reducible refine s_bd b2 ?_)
    unfold ptR
    rw [h2]
  · have h3' : Rd_toldData v >>> NN V &&& NN 1 = NN 1 := h3
    unfold f_Rd_readPart
    repeat first | (with_reducible refine s_nmj1 ?_) | (with_reducible refine s_nmj2 ?_) | ((with_reducible refine s_nm ?_); intro y_ hy_; (try simp (disch := omega) only [n_lit, n_add, n_mul, n_sub, n_tn, n_ltT, n_ltF, n_leT, n_leF, n_eqT, n_eqF, n_div, n_ixT, n_ixF, n_not, n_md, n_dec, n_and1, n_and3, n_and7, n_and15, n_and31, n_and63, Nat.mod_eq_of_lt, Nat.zero_add, Nat.add_zero, Nat.zero_mul, Nat.sub_zero, not_false_eq_true, not_true_eq_false, upd_at, upd_ne, h1, h2, h3', Nat.mod_eq_of_lt] at hy_); subst hy_) | ((with_reducible refine s_pos ?_ ?_); · simp (disch := omega) only [n_lit, n_add, n_mul, n_sub, n_tn, n_ltT, n_ltF, n_leT, n_leF, n_eqT, n_eqF, n_div, n_ixT, n_ixF, n_not, n_md, n_dec, n_and1, n_and3, n_and7, n_and15, n_and31, n_and63, Nat.mod_eq_of_lt, Nat.zero_add, Nat.add_zero, Nat.zero_mul, Nat.sub_zero, not_false_eq_true, not_true_eq_false, upd_at, upd_ne, h1, h2, h3', Nat.mod_eq_of_lt]) | ((with_reducible refine s_neg ?_ ?_); · simp (disch := omega) only [n_lit, n_add, n_mul, n_sub, n_tn, n_ltT, n_ltF, n_leT, n_leF, n_eqT, n_eqF, n_div, n_ixT, n_ixF, n_not, n_md, n_dec, n_and1, n_and3, n_and7, n_and15, n_and31, n_and63, Nat.mod_eq_of_lt, Nat.zero_add, Nat.add_zero, Nat.zero_mul, Nat.sub_zero, not_false_eq_true, not_true_eq_false, upd_at, upd_ne, h1, h2, h3', Nat.mod_eq_of_lt])  | (with_reducible refine s_bd b1 ?_) | (with_reducible refine s_bd b2 ?_) | (with_reducible refine s_bd (C_fail _ _ _) ?_)
    rfl
  · unfold f_Rd_readPart
    repeat first | (with_reducible refine s_nmj1 ?_) | (with_reducible refine s_nmj2 ?_) | ((with_reducible refine s_nm ?_); intro y_ hy_; (try simp (disch := omega) only [n_lit, n_add, n_mul, n_sub, n_tn, n_ltT, n_ltF, n_leT, n_leF, n_eqT, n_eqF, n_div, n_ixT, n_ixF, n_not, n_md, n_dec, n_and1, n_and3, n_and7, n_and15, n_and31, n_and63, Nat.mod_eq_of_lt, Nat.zero_add, Nat.add_zero, Nat.zero_mul, Nat.sub_zero, not_false_eq_true, not_true_eq_false, upd_at, upd_ne, h1, h2] at hy_); subst hy_) | ((with_reducible refine s_pos ?_ ?_); · simp (disch := omega) only [n_lit, n_add, n_mul, n_sub, n_tn, n_ltT, n_ltF, n_leT, n_leF, n_eqT, n_eqF, n_div, n_ixT, n_ixF, n_not, n_md, n_dec, n_and1, n_and3, n_and7, n_and15, n_and31, n_and63, Nat.mod_eq_of_lt, Nat.zero_add, Nat.add_zero, Nat.zero_mul, Nat.sub_zero, not_false_eq_true, not_true_eq_false, upd_at, upd_ne, h1, h2]) | ((with_reducible refine s_neg ?_ ?_); · simp (disch := omega) only [n_lit, n_add, n_mul, n_sub, n_tn, n_ltT, n_ltF, n_leT, n_leF, n_eqT, n_eqF, n_div, n_ixT, n_ixF, n_not, n_md, n_dec, n_and1, n_and3, n_and7, n_and15, n_and31, n_and63, Nat.mod_eq_of_lt, Nat.zero_add, Nat.add_zero, Nat.zero_mul, Nat.sub_zero, not_false_eq_true, not_true_eq_false, upd_at, upd_ne, h1, h2])  | (with_reducible refine s_bd b1 ?_) | (with_reducible refine s_bd b2 ?_) | (with_reducible refine s_bd (C_fail _ _ _) ?_)
    rfl
  · unfold f_Rd_readPart
    repeat first | (with_reducible refine s_nmj1 ?_) | (with_reducible refine s_nmj2 ?_) | ((with_reducible refine s_nm ?_); intro y_ hy_; (try simp (disch := omega) only [n_lit, n_add, n_mul, n_sub, n_tn, n_ltT, n_ltF, n_leT, n_leF, n_eqT, n_eqF, n_div, n_ixT, n_ixF, n_not, n_md, n_dec, n_and1, n_and3, n_and7, n_and15, n_and31, n_and63, Nat.mod_eq_of_lt, Nat.zero_add, Nat.add_zero, Nat.zero_mul, Nat.sub_zero, not_false_eq_true, not_true_eq_false, upd_at, upd_ne, h1] at hy_); subst hy_) | ((with_reducible refine s_pos ?_ ?_); · simp (disch := omega) only [n_lit, n_add, n_mul, n_sub, n_tn, n_ltT, n_ltF, n_leT, n_leF, n_eqT, n_eqF, n_div, n_ixT, n_ixF, n_not, n_md, n_dec, n_and1, n_and3, n_and7, n_and15, n_and31, n_and63, Nat.mod_eq_of_lt, Nat.zero_add, Nat.add_zero, Nat.zero_mul, Nat.sub_zero, not_false_eq_true, not_true_eq_false, upd_at, upd_ne, h1]) | ((with_reducible refine s_neg ?_ ?_); · simp (disch := omega) only [n_lit, n_add, n_mul, n_sub, n_tn, n_ltT, n_ltF, n_leT, n_leF, n_eqT, n_eqF, n_div, n_ixT, n_ixF, n_not, n_md, n_dec, n_and1, n_and3, n_and7, n_and15, n_and31, n_and63, Nat.mod_eq_of_lt, Nat.zero_add, Nat.add_zero, Nat.zero_mul, Nat.sub_zero, not_false_eq_true, not_true_eq_false, upd_at, upd_ne, h1])  | (with_reducible refine s_bd (C_fail _ _ _) ?_)
    rfl
def dP (pr : T_Pg) (D : Nat → Int32) : T_Pg := ((Pg_code pr), (Pg_first pr), (Pg_second pr), (Pg_third pr), (Pg_rules pr), D, (Pg_names pr), (Pg_namedPlaces pr), (Pg_nameCount pr), (Pg_size pr), (Pg_lines pr))
theorem C_takeData {v : T_Rd} {pr : T_Pg} {V : Nat} (hV : V < 32) (h : Rd_parts v 0 = NN V) : f_Rd_takeLine v pr (NN 5) = some (v, dP pr (upd (Pg_data pr) V (Rd_parts v 1))) := by
  unfold f_Rd_takeLine
  repeat first | (with_reducible refine s_nmj1 ?_) | (with_reducible refine s_nmj2 ?_) | ((with_reducible refine s_nm ?_); intro y_ hy_; (try simp (disch := omega) only [n_lit, n_add, n_mul, n_sub, n_tn, n_ltT, n_ltF, n_leT, n_leF, n_eqT, n_eqF, n_div, n_ixT, n_ixF, n_not, n_md, n_dec, n_and1, n_and3, n_and7, n_and15, n_and31, n_and63, Nat.mod_eq_of_lt, Nat.zero_add, Nat.add_zero, Nat.zero_mul, Nat.sub_zero, not_false_eq_true, not_true_eq_false, upd_at, upd_ne, h, Nat.mod_eq_of_lt] at hy_); subst hy_) | ((with_reducible refine s_pos ?_ ?_); · simp (disch := omega) only [n_lit, n_add, n_mul, n_sub, n_tn, n_ltT, n_ltF, n_leT, n_leF, n_eqT, n_eqF, n_div, n_ixT, n_ixF, n_not, n_md, n_dec, n_and1, n_and3, n_and7, n_and15, n_and31, n_and63, Nat.mod_eq_of_lt, Nat.zero_add, Nat.add_zero, Nat.zero_mul, Nat.sub_zero, not_false_eq_true, not_true_eq_false, upd_at, upd_ne, h, Nat.mod_eq_of_lt]) | ((with_reducible refine s_neg ?_ ?_); · simp (disch := omega) only [n_lit, n_add, n_mul, n_sub, n_tn, n_ltT, n_ltF, n_leT, n_leF, n_eqT, n_eqF, n_div, n_ixT, n_ixF, n_not, n_md, n_dec, n_and1, n_and3, n_and7, n_and15, n_and31, n_and63, Nat.mod_eq_of_lt, Nat.zero_add, Nat.add_zero, Nat.zero_mul, Nat.sub_zero, not_false_eq_true, not_true_eq_false, upd_at, upd_ne, h, Nat.mod_eq_of_lt]) 
  rfl
set_option maxHeartbeats 4000000 in
theorem line_data {T : Nat → Nat} {n : Nat} {rd : T_Rd} {pr : T_Pg} {m : T_M} {pl q sz nc : Nat} (hA : AT T n rd m pl q) (hwd : WD rd) (hsd : SD rd) (hD : DR rd pr m sz nc) (h1 : Rd_token rd = NN 1) (h2 : Rd_value rd = NN (WP 5)) (h3 : M_sort (M_rd m) = NN 0) (h4 : M_value (M_rd m) = NN 5) : LOK T n rd pr m pl sz nc ∨ LBAD T n rd pr m := by
  have hPL : PLN 118 0 99999 := Or.inr (Or.inr (Or.inr (Or.inr (Or.inl ⟨rfl, rfl, rfl⟩))))
  obtain ⟨x1, x2, x3, x4, x5, x6, x7, x8, x9, x10⟩ := id hA
  obtain ⟨q', pl', sort', value', g1, g2, g3⟩ := AT_goOn hA
  have hA0 := g2 (pR rd (z3 (Rd_parts rd))) (TP_C x3) x6 x1
  have hb : tb (Rd_toldRules rd) 5 = NN 0 := by rw [hD.2.2.2.2.2.2.2.2.1 5 (by omega), if_neg (by omega)]
  have hC0 := C_head (pr := pr) hwd (by omega : 5 < 25) h1 h2 hb hD.1.1 hD.1.2.2 (Or.inl (by omega))
  obtain ⟨r0, hr0⟩ : ∃ r0, r0 = pR rd (z3 (Rd_parts rd)) := ⟨_, rfl⟩
  rw [← hr0] at hC0 hA0
  have hfr0 : FR1 rd r0 := by rw [hr0]; exact ⟨rfl, rfl, rfl, rfl, rfl, rfl⟩
  have hwa0 : Rd_wantedPlaces r0 = Rd_wantedPlaces rd := by rw [hr0]; rfl
  have htd0 : Rd_toldData r0 = Rd_toldData rd := by rw [hr0]; rfl
  have hff0 : Rd_fault r0 = NN 0 := by rw [hr0]; exact x1
  obtain ⟨m1, hm1⟩ : ∃ m1, m1 = tM m (NN q') (NN pl') sort' value' := ⟨_, rfl⟩
  rw [← hm1] at g1 hA0
  have hfm : FM1 m m1 := by rw [hm1]; exact ⟨rfl, rfl, rfl, rfl, rfl, rfl, rfl, rfl, rfl⟩
  have hcd1 : M_cd m1 = M_cd m := by rw [hm1]; rfl
  have hhd1 : M_hasData (M_rd m1) = M_hasData (M_rd m) := by rw [hm1]; rfl
  obtain ⟨pos, tok, val, place, e1, hA1⟩ := hA0
  obtain ⟨r1', hr1⟩ : ∃ r1', r1' = tR r0 pos tok val place := ⟨_, rfl⟩
  rw [← hr1] at e1 hA1
  have hfr1 : FR1 rd r1' := FR1_trans hfr0 (by rw [hr1]; exact ⟨rfl, rfl, rfl, rfl, rfl, rfl⟩)
  have hwa1 : Rd_wantedPlaces r1' = Rd_wantedPlaces rd := by rw [hr1]; exact hwa0
  have htd1 : Rd_toldData r1' = Rd_toldData rd := by rw [hr1]; exact htd0
  obtain ⟨y1, y2, y3, y4, y5, y6, y7, y8, y9, y10⟩ := id hA1
  have hs0 : Rd_sorts r0 15 = NN 100 := (congrFun hfr0.2.2.2.1 _).trans (hsd 15 (by omega))
  have hs1 : Rd_sorts r1' 16 = NN 118 := (congrFun hfr1.2.2.2.1 _).trans (hsd 16 (by omega))
  have hs2 : Rd_sorts r1' 17 = NN 32 := (congrFun hfr1.2.2.2.1 _).trans (hsd 17 (by omega))
  obtain ⟨n1, n2, n3⟩ := M_nah (m := m1) (lo := 0) (hi := 31) (by omega) (by omega) y2
  obtain ⟨p1, p2, p3, p4⟩ := C_partD (v := r1') (pr := pr)
  have bad : ∀ f m3, f ≠ 0 ∧ f < 10 → f_Rd_readPart r1' pr (NN 100) (NN 0) = some (wR r1' (NN f) (Rd_place r1')) → f_M_readLine m = ML m3 → m3 = wM m1 (NN f) (M_place (M_rd m1)) → LBAD T n rd pr m := by
    intro f m3 hf hc hM hm3
    have c0 := cst_go (pr := pr) (w := 5) (k := 0) (by omega) (by omega) hff0 hs0 ⟨by omega, by omega⟩ e1 hc
    have hF : Rd_fault (wR r1' (NN f) (Rd_place r1')) = NN f := rfl
    rw [c0, bd_some, cst_bad hF hf, bd_some, cst_bad hF hf, bd_some] at hC0
    obtain ⟨m1', m2', m3', m4', m5', m6', m7', m8', m9'⟩ := hfm
    obtain ⟨f1, f2, f3, f4, f5, f6⟩ := hfr1
    refine bad_end hC0 hM (by rw [hm3]; exact AT_bad hA1 hf) ⟨⟨f1, f2, f3, f4, f5⟩, ?_, ?_⟩
    · rw [hm3]; exact ⟨m1', m2', m3', m4', m5', m6', m7'⟩
    · rw [hm3]; show LOW (M_cd m) (M_cd m1); rw [hcd1]; exact LOW_refl _
  rcases TK_num (lo := 0) (hi := 31) y10 (by omega) (by omega) with ⟨V, v1, v2, v3, v4, v5, v6, v7⟩ | ⟨V, W, v1, v2, v3, v4, v5, v6, v7⟩ | ⟨t, s', v1, v2, v3, v4, v5, v6⟩
  · have hV32 : V < 32 := by omega
    have htd : tb (Rd_toldData r1') V = M_hasData (M_rd m) V := by rw [htd1]; exact hD.2.2.2.2.2.2.2.2.2.2.1 V hV32
    rcases hD.2.2.2.2.2.2.2.2.2.2.2 V hV32 with hh | hh
    · have hc := p1 V v2 v3 v4 (htd.trans hh)
      have c0 := cst_go (pr := pr) (w := 5) (k := 0) (by omega) (by omega) hff0 hs0 ⟨by omega, by omega⟩ e1 hc
      obtain ⟨q2, pl2, sort2, value2, k1, k2, k3⟩ := AT_goOn hA1
      obtain ⟨m2, hm2⟩ : ∃ m2, m2 = tM m1 (NN q2) (NN pl2) sort2 value2 := ⟨_, rfl⟩
      rw [← hm2] at k1 k2
      have hA2 := k2 (ptR r1' (upd (Rd_parts r1') 0 (NN V)) (Rd_toldData r1' ||| (NN 1 <<< NN V))) (TP_C y3) y6 y1
      obtain ⟨r2, hr2⟩ : ∃ r2, r2 = ptR r1' (upd (Rd_parts r1') 0 (NN V)) (Rd_toldData r1' ||| (NN 1 <<< NN V)) := ⟨_, rfl⟩
      rw [← hr2] at hA2 c0
      have hfr2 : FR1 rd r2 := FR1_trans hfr1 (by rw [hr2]; exact ⟨rfl, rfl, rfl, rfl, rfl, rfl⟩)
      have hwa2 : Rd_wantedPlaces r2 = Rd_wantedPlaces rd := by rw [hr2]; exact hwa1
      have htd2 : Rd_toldData r2 = Rd_toldData rd ||| (NN 1 <<< NN V) := by rw [← htd1, hr2]; rfl
      have hpa2 : Rd_parts r2 0 = NN V := by
        rw [hr2]
        show upd (Rd_parts r1') 0 (NN V) 0 = NN V
        exact upd_at rfl
      have hs1' : Rd_sorts r2 16 = NN 118 := (congrFun hfr2.2.2.2.1 _).trans (hsd 16 (by omega))
      have hs2' : Rd_sorts r2 17 = NN 32 := (congrFun hfr2.2.2.2.1 _).trans (hsd 17 (by omega))
      have hcd2 : M_cd m2 = M_cd m := by rw [hm2]; exact hcd1
      have hhd2 : M_hasData (M_rd m2) = M_hasData (M_rd m) := by rw [hm2]; exact hhd1
      have hfm2 : FM1 m m2 := FM1_trans hfm (by rw [hm2]; exact ⟨rfl, rfl, rfl, rfl, rfl, rfl, rfl, rfl, rfl⟩)
      have hn1 := n1 V (by omega) v2 v5 v6
      have hh1 : M_hasData (M_rd m1) V = NN 0 := by rw [hhd1]; exact hh
      rcases num_step hA2 pr (w := 5) (k := 1) (by omega) (by omega) hs1' hPL with ⟨r1, a1, V1, pl3, q3, u1, u2, c1, u3, A3, lt3, le3, fr3, fm3, pa3, wa3, td3, cd3, hd3⟩ | ⟨r1, a1, c1, u3, B3, fr3, fm3, cd3, hd3⟩
      · have c2 := cst_skip (pr := pr) (w := 5) (k := 2) (v := r1) (by omega) (by omega) ((congrFun fr3.2.2.2.1 _).trans hs2')
        rw [c0, bd_some, c1, bd_some, c2, bd_some] at hC0
        have hM := M_lineD (m3 := dM a1 V (NN V1)) h3 h4 g1 hn1 (Or.inl ⟨V, m2, a1, NN V1, y2, hV32, rfl, hh1, k1, u3, Or.inl ⟨AH_M0 A3, rfl⟩⟩)
        have A3' : AH T n r1 (dM a1 V (NN V1)) pl3 q3 := A3
        obtain ⟨f1, f2, f3, f4, f5, f6⟩ := FR1_trans hfr2 fr3
        obtain ⟨m1', m2', m3', m4', m5', m6', m7', m8', m9'⟩ := FM1_trans hfm2 fm3
        have hcda : M_cd a1 = M_cd m := cd3.trans hcd2
        have hhda : M_hasData (M_rd a1) = M_hasData (M_rd m) := hd3.trans hhd2
        refine good_end hC0 hM A3' (by omega) ⟨⟨f1, f2, f3, f4, f5⟩, ⟨m1', m2', m3', m4', m5', m6', m7'⟩, ?_⟩ (fun v mm b1 b2 b3 b4 b5 b6 b7 => ?_)
        · show LOW (M_cd m) (dC (M_cd a1) (upd (M_data (M_cd a1)) (32 + V) (NN V1)))
          rw [hcda]
          exact ⟨fun _ _ => rfl, fun _ _ => ⟨rfl, rfl, rfl, rfl, rfl⟩, fun _ _ => ⟨rfl, rfl⟩, fun a ha => upd_ne (by omega)⟩
        · have z0 : Rd_parts v 0 = NN V := by rw [b2, pa3, upd_ne (by omega)]; exact hpa2
          have z1 : Rd_parts v 1 = NN V1 := by rw [b2, pa3, upd_at rfl]
          have hT := C_takeData (v := v) (pr := pL pr (Pg_lines pr + NN 1)) hV32 z0
          refine ⟨_, _, hT, rfl, rfl, rfl, rfl, rfl, rfl, rfl, ?_, rfl⟩
          have e1 : M_cd (lM mm) = dC (M_cd m) (upd (M_data (M_cd m)) (32 + V) (NN V1)) := by
            refine b6.trans ?_
            show dC (M_cd a1) (upd (M_data (M_cd a1)) (32 + V) (NN V1)) = _
            rw [hcda]
          have e2 : M_isTold (M_rd (lM mm)) = M_isTold (M_rd m) := (b5.2.2.2.2.2.2.2.2).trans m9'
          have e3 : M_hasData (M_rd (lM mm)) = upd (M_hasData (M_rd m)) V (NN 1) := by
            refine b7.trans ?_
            show upd (M_hasData (M_rd a1)) V (NN 1) = _
            rw [hhda]
          have e4 : M_lines (M_rd (lM mm)) = M_lines (M_rd m) + NN 1 := by
            show M_lines (M_rd mm) + NN 1 = _
            rw [b5.2.2.2.2.2.2.2.1]
            exact congrArg (· + NN 1) m8'
          have e5 : Rd_toldRules v = Rd_toldRules rd := b1.2.2.2.2.2.trans f6
          have e6 : Rd_toldData v = Rd_toldData rd ||| (NN 1 <<< NN V) := by rw [b4, td3, htd2]
          have e7 : Rd_wantedPlaces v = Rd_wantedPlaces rd := by rw [b3, wa3, hwa2]
          obtain ⟨⟨d1, d2, d3⟩, d4, d5, d6, d7, d8, d9, d10, d11, d12, d13, d14⟩ := hD
          unfold DR
          rw [e1, e2, e3, e4, e5, e6, e7]
          refine ⟨⟨d1, d2, d3⟩, d4, ?_, d6, fun a ha => ?_, d8, d9, d10, d11, d12, fun a ha => ?_, fun a ha => ?_⟩
          · show Pg_lines pr + NN 1 = _; rw [d5]
          · show upd (Pg_data pr) V (Rd_parts v 1) a = upd (M_data (M_cd m)) (32 + V) (NN V1) (32 + a)
            by_cases g : a = V
            · rw [upd_at g, upd_at (by omega), z1]
            · rw [upd_ne g, upd_ne (by omega)]; exact d7 a ha
          · rw [tb_or ha hV32]
            by_cases g : a = V
            · rw [if_pos g, upd_at g]
            · rw [if_neg g, upd_ne g]; exact d13 a ha
          · by_cases g : a = V
            · exact Or.inr (upd_at g)
            · rw [upd_ne g]; exact d14 a ha
      · obtain ⟨f, hf, z1, z2⟩ := BD_fault B3
        rw [c0, bd_some, c1, bd_some, cst_bad z1 hf, bd_some] at hC0
        have hM := M_lineD (m3 := a1) h3 h4 g1 hn1 (Or.inl ⟨V, m2, a1, NN 0, y2, hV32, rfl, hh1, k1, u3, Or.inr ⟨f, hf.1, hf.2, z2, rfl⟩⟩)
        obtain ⟨f1, f2, f3, f4, f5, f6⟩ := FR1_trans hfr2 fr3
        obtain ⟨m1', m2', m3', m4', m5', m6', m7', m8', m9'⟩ := FM1_trans hfm2 fm3
        refine Or.inr (bad_end hC0 hM B3 ⟨⟨f1, f2, f3, f4, f5⟩, ⟨m1', m2', m3', m4', m5', m6', m7'⟩, ?_⟩)
        rw [cd3, hcd2]; exact LOW_refl _
    · have hh1 : M_hasData (M_rd m1) V = NN 1 := by rw [hhd1]; exact hh
      exact Or.inr (bad 3 _ (by omega) (p2 V v2 v3 v4 (htd.trans hh)) (M_lineD h3 h4 g1 (n1 V (by omega) v2 v5 v6) (Or.inr (Or.inl ⟨V, y2, hV32, rfl, hh1, rfl⟩))) rfl)
  · exact Or.inr (bad 2 _ (by omega) (p3 V v1 (by omega) v3 v4) (M_lineD h3 h4 g1 (n2 W v2 (by omega) v5 v6) (Or.inr (Or.inr ⟨2, by omega, by omega, rfl, rfl⟩))) rfl)
  · exact Or.inr (bad 1 _ (by omega) (p4 t v1 v3 v5) (M_lineD h3 h4 g1 (n3 s' v2 v4 v6) (Or.inr (Or.inr ⟨1, by omega, by omega, rfl, rfl⟩))) rfl)
