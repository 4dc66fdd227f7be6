/-! LINES: a number as a part -/
def FR1 (rd rd1 : T_Rd) : Prop := Rd_tape rd1 = Rd_tape rd ∧ Rd_filled rd1 = Rd_filled rd ∧ Rd_words rd1 = Rd_words rd ∧ Rd_sorts rd1 = Rd_sorts rd ∧ Rd_limit rd1 = Rd_limit rd ∧ Rd_toldRules rd1 = Rd_toldRules rd
def FM1 (m m1 : T_M) : Prop := M_tp m1 = M_tp m ∧ M_lf m1 = M_lf m ∧ M_rn m1 = M_rn m ∧ M_ex m1 = M_ex m ∧ M_im m1 = M_im m ∧ M_al m1 = M_al m ∧ M_thrown m1 = M_thrown m ∧ M_lines (M_rd m1) = M_lines (M_rd m) ∧ M_isTold (M_rd m1) = M_isTold (M_rd m)
theorem FR1_refl (rd : T_Rd) : FR1 rd rd := ⟨rfl, rfl, rfl, rfl, rfl, rfl⟩
theorem FR1_trans {a b c : T_Rd} (h : FR1 a b) (h2 : FR1 b c) : FR1 a c := ⟨h2.1.trans h.1, h2.2.1.trans h.2.1, h2.2.2.1.trans h.2.2.1, h2.2.2.2.1.trans h.2.2.2.1, h2.2.2.2.2.1.trans h.2.2.2.2.1, h2.2.2.2.2.2.trans h.2.2.2.2.2⟩
theorem FM1_refl (m : T_M) : FM1 m m := ⟨rfl, rfl, rfl, rfl, rfl, rfl, rfl, rfl, rfl⟩
theorem FM1_trans {a b c : T_M} (h : FM1 a b) (h2 : FM1 b c) : FM1 a c := by
  obtain ⟨a1, a2, a3, a4, a5, a6, a7, a8, a9⟩ := h
  obtain ⟨b1, b2, b3, b4, b5, b6, b7, b8, b9⟩ := h2
  exact ⟨b1.trans a1, b2.trans a2, b3.trans a3, b4.trans a4, b5.trans a5, b6.trans a6, b7.trans a7, b8.trans a8, b9.trans a9⟩
theorem C_sortOf {v : T_Rd} {w k : Nat} (hw : w < 25) (hk : k < 3) : f_Rd_sortOf v (NN w) (NN k) = some (Rd_sorts v (3 * w + k)) := by
  unfold f_Rd_sortOf
  repeat first | (with_reducible refine s_nmj1 ?_) | (with_reducible refine s_nmj2 ?_) | ((with_reducible refine s_nm ?_); intro y_ hy_; (try simp (disch := omega) only [n_lit, n_add, n_mul, n_sub, n_tn, n_ltT, n_ltF, n_leT, n_leF, n_eqT, n_eqF, n_div, n_ixT, n_ixF, n_not, n_md, n_dec, n_and1, n_and3, n_and7, n_and15, n_and31, n_and63, Nat.mod_eq_of_lt, Nat.zero_add, Nat.add_zero, Nat.zero_mul, Nat.sub_zero, not_false_eq_true, not_true_eq_false, upd_at, upd_ne] at hy_); subst hy_) | ((with_reducible refine s_pos ?_ ?_); · simp (disch := omega) only [n_lit, n_add, n_mul, n_sub, n_tn, n_ltT, n_ltF, n_leT, n_leF, n_eqT, n_eqF, n_div, n_ixT, n_ixF, n_not, n_md, n_dec, n_and1, n_and3, n_and7, n_and15, n_and31, n_and63, Nat.mod_eq_of_lt, Nat.zero_add, Nat.add_zero, Nat.zero_mul, Nat.sub_zero, not_false_eq_true, not_true_eq_false, upd_at, upd_ne]) | ((with_reducible refine s_neg ?_ ?_); · simp (disch := omega) only [n_lit, n_add, n_mul, n_sub, n_tn, n_ltT, n_ltF, n_leT, n_leF, n_eqT, n_eqF, n_div, n_ixT, n_ixF, n_not, n_md, n_dec, n_and1, n_and3, n_and7, n_and15, n_and31, n_and63, Nat.mod_eq_of_lt, Nat.zero_add, Nat.add_zero, Nat.zero_mul, Nat.sub_zero, not_false_eq_true, not_true_eq_false, upd_at, upd_ne]) 
  rw [n_tn (by omega), Nat.mul_comm]
theorem cst_bad {pr : T_Pg} {w k : Int32} {v : T_Rd} {f : Nat} (h : Rd_fault v = NN f) (hf : f ≠ 0 ∧ f < 10) : cst pr w k v = some v := by
  unfold cst
  repeat first | (with_reducible refine s_nmj1 ?_) | (with_reducible refine s_nmj2 ?_) | ((with_reducible refine s_nm ?_); intro y_ hy_; (try simp (disch := omega) only [n_lit, n_add, n_mul, n_sub, n_tn, n_ltT, n_ltF, n_leT, n_leF, n_eqT, n_eqF, n_div, n_ixT, n_ixF, n_not, n_md, n_dec, n_and1, n_and3, n_and7, n_and15, n_and31, n_and63, Nat.mod_eq_of_lt, Nat.zero_add, Nat.add_zero, Nat.zero_mul, Nat.sub_zero, not_false_eq_true, not_true_eq_false, upd_at, upd_ne, h] at hy_); subst hy_) | ((with_reducible refine s_pos ?_ ?_); · simp (disch := omega) only [n_lit, n_add, n_mul, n_sub, n_tn, n_ltT, n_ltF, n_leT, n_leF, n_eqT, n_eqF, n_div, n_ixT, n_ixF, n_not, n_md, n_dec, n_and1, n_and3, n_and7, n_and15, n_and31, n_and63, Nat.mod_eq_of_lt, Nat.zero_add, Nat.add_zero, Nat.zero_mul, Nat.sub_zero, not_false_eq_true, not_true_eq_false, upd_at, upd_ne, h]) | ((with_reducible refine s_neg ?_ ?_); · simp (disch := omega) only [n_lit, n_add, n_mul, n_sub, n_tn, n_ltT, n_ltF, n_leT, n_leF, n_eqT, n_eqF, n_div, n_ixT, n_ixF, n_not, n_md, n_dec, n_and1, n_and3, n_and7, n_and15, n_and31, n_and63, Nat.mod_eq_of_lt, Nat.zero_add, Nat.add_zero, Nat.zero_mul, Nat.sub_zero, not_false_eq_true, not_true_eq_false, upd_at, upd_ne, h]) 
  rfl
theorem cst_skip {pr : T_Pg} {w k : Nat} {v : T_Rd} (hw : w < 25) (hk : k < 3) (hs : Rd_sorts v (3 * w + k) = NN 32) : cst pr (NN w) (NN k) v = some v := by
  have e := C_sortOf (v := v) hw hk
  rw [hs] at e
  unfold cst
  by_cases q : Rd_fault v = (0 : Int32)
  · rw [if_pos q]
    repeat first | (with_reducible refine s_nmj1 ?_) | (with_reducible refine s_nmj2 ?_) | ((with_reducible refine s_nm ?_); intro y_ hy_; (try simp (disch := omega) only [n_lit, n_add, n_mul, n_sub, n_tn, n_ltT, n_ltF, n_leT, n_leF, n_eqT, n_eqF, n_div, n_ixT, n_ixF, n_not, n_md, n_dec, n_and1, n_and3, n_and7, n_and15, n_and31, n_and63, Nat.mod_eq_of_lt, Nat.zero_add, Nat.add_zero, Nat.zero_mul, Nat.sub_zero, not_false_eq_true, not_true_eq_false, upd_at, upd_ne] at hy_); subst hy_) | ((with_reducible refine s_pos ?_ ?_); · simp (disch := omega) only [n_lit, n_add, n_mul, n_sub, n_tn, n_ltT, n_ltF, n_leT, n_leF, n_eqT, n_eqF, n_div, n_ixT, n_ixF, n_not, n_md, n_dec, n_and1, n_and3, n_and7, n_and15, n_and31, n_and63, Nat.mod_eq_of_lt, Nat.zero_add, Nat.add_zero, Nat.zero_mul, Nat.sub_zero, not_false_eq_true, not_true_eq_false, upd_at, upd_ne]) | ((with_reducible refine s_neg ?_ ?_); · simp (disch := omega) only [n_lit, n_add, n_mul, n_sub, n_tn, n_ltT, n_ltF, n_leT, n_leF, n_eqT, n_eqF, n_div, n_ixT, n_ixF, n_not, n_md, n_dec, n_and1, n_and3, n_and7, n_and15, n_and31, n_and63, Nat.mod_eq_of_lt, Nat.zero_add, Nat.add_zero, Nat.zero_mul, Nat.sub_zero, not_false_eq_true, not_true_eq_false, upd_at, upd_ne])  | (with_reducible refine s_bd e ?_)
    rfl
  · rw [if_neg q]
theorem cst_go {pr : T_Pg} {w k s : Nat} {v v1 v2 : T_Rd} (hw : w < 25) (hk : k < 3) (h0 : Rd_fault v = NN 0) (hs : Rd_sorts v (3 * w + k) = NN s) (hs2 : s ≠ 32 ∧ s < 200) (h1 : f_Rd_advance v = some v1) (h2 : f_Rd_readPart v1 pr (NN s) (NN k) = some v2) : cst pr (NN w) (NN k) v = some v2 := by
  have e := C_sortOf (v := v) hw hk
  rw [hs] at e
  unfold cst
  repeat first | (with_reducible refine s_nmj1 ?_) | (with_reducible refine s_nmj2 ?_) | ((with_reducible refine s_nm ?_); intro y_ hy_; (try simp (disch := omega) only [n_lit, n_add, n_mul, n_sub, n_tn, n_ltT, n_ltF, n_leT, n_leF, n_eqT, n_eqF, n_div, n_ixT, n_ixF, n_not, n_md, n_dec, n_and1, n_and3, n_and7, n_and15, n_and31, n_and63, Nat.mod_eq_of_lt, Nat.zero_add, Nat.add_zero, Nat.zero_mul, Nat.sub_zero, not_false_eq_true, not_true_eq_false, upd_at, upd_ne, h0] at hy_); subst hy_) | ((with_reducible refine s_pos ?_ ?_); · simp (disch := omega) only [n_lit, n_add, n_mul, n_sub, n_tn, n_ltT, n_ltF, n_leT, n_leF, n_eqT, n_eqF, n_div, n_ixT, n_ixF, n_not, n_md, n_dec, n_and1, n_and3, n_and7, n_and15, n_and31, n_and63, Nat.mod_eq_of_lt, Nat.zero_add, Nat.add_zero, Nat.zero_mul, Nat.sub_zero, not_false_eq_true, not_true_eq_false, upd_at, upd_ne, h0]) | ((with_reducible refine s_neg ?_ ?_); · simp (disch := omega) only [n_lit, n_add, n_mul, n_sub, n_tn, n_ltT, n_ltF, n_leT, n_leF, n_eqT, n_eqF, n_div, n_ixT, n_ixF, n_not, n_md, n_dec, n_and1, n_and3, n_and7, n_and15, n_and31, n_and63, Nat.mod_eq_of_lt, Nat.zero_add, Nat.add_zero, Nat.zero_mul, Nat.sub_zero, not_false_eq_true, not_true_eq_false, upd_at, upd_ne, h0])  | (with_reducible refine s_bd e ?_) | (with_reducible refine s_bd h1 ?_) | (with_reducible refine s_bd h2 ?_)
  rfl
theorem AH_fault {T : Nat → Nat} {n : Nat} {rd : T_Rd} {m : T_M} {pl q : Nat} (h : AH T n rd m pl q) : Rd_fault rd = NN 0 := by
  obtain ⟨_, _, _, _, _, h⟩ := h
  exact h.1
/-- what the class reads next does not hang on what the parts are -/
theorem sign_same {v u : T_Rd} (h1 : Rd_tape u = Rd_tape v) (h2 : Rd_limit u = Rd_limit v) (x : Int32) : f_Rd_signAt u x = f_Rd_signAt v x := by
  unfold f_Rd_signAt
  rw [h1, h2]
/-- class and model read a number -/
theorem num_step {T : Nat → Nat} {n : Nat} {rd : T_Rd} {m : T_M} {pl q : Nat} (h : AH T n rd m pl q) (pr : T_Pg) {w k s lo hi : Nat} (hw : w < 25) (hk : k < 3) (hs : Rd_sorts rd (3 * w + k) = NN s) (hp : PLN s lo hi) :
    (∃ rd1 m1 V pl' q', lo ≤ V ∧ V ≤ hi ∧ cst pr (NN w) (NN k) rd = some rd1 ∧ f_M_numeral m (NN lo) (NN hi) = some (NN V, m1) ∧ AH T n rd1 m1 pl' q' ∧ pl < q ∧ q ≤ pl' ∧ FR1 rd rd1 ∧ FM1 m m1 ∧ Rd_parts rd1 = upd (Rd_parts rd) k (NN V) ∧ Rd_wantedPlaces rd1 = Rd_wantedPlaces rd ∧ Rd_toldData rd1 = Rd_toldData rd ∧ M_cd m1 = M_cd m ∧ M_hasData (M_rd m1) = M_hasData (M_rd m)) ∨
    (∃ rd1 m1, cst pr (NN w) (NN k) rd = some rd1 ∧ f_M_numeral m (NN lo) (NN hi) = some (NN lo, m1) ∧ BD T n rd1 m1 ∧ FR1 rd rd1 ∧ FM1 m m1 ∧ M_cd m1 = M_cd m ∧ M_hasData (M_rd m1) = M_hasData (M_rd m)) := by
  obtain ⟨b1, b2, b3, b4, b5, b6, b7, b8⟩ := C_bounds (v := rd) hp
  obtain ⟨pos, tok, val, place, e1, hA⟩ := h
  have hA' := hA
  obtain ⟨h1, h2, h3, h4, h5, h6, h7, h8, h9, h10⟩ := hA'
  have hf : Rd_fault rd = NN 0 := h1
  obtain ⟨n1, n2, n3⟩ := M_nah (m := m) (lo := lo) (hi := hi) (by omega) b4 h2
  have hbad : ∀ f, f ≠ 0 ∧ f < 10 → f_Rd_readPart (tR rd pos tok val place) pr (NN s) (NN k) = some (wR (tR rd pos tok val place) (NN f) (Rd_place (tR rd pos tok val place))) → f_M_numberAtHand m (NN lo) (NN hi) = some (NN lo, wM m (NN f) (M_place (M_rd m))) →
      (∃ rd1 m1, cst pr (NN w) (NN k) rd = some rd1 ∧ f_M_numeral m (NN lo) (NN hi) = some (NN lo, m1) ∧ BD T n rd1 m1 ∧ FR1 rd rd1 ∧ FM1 m m1 ∧ M_cd m1 = M_cd m ∧ M_hasData (M_rd m1) = M_hasData (M_rd m)) := by
    intro f hf1 hc hm
    refine ⟨_, _, cst_go hw hk hf hs ⟨by omega, by omega⟩ e1 hc, ?_, AT_bad hA hf1, ⟨rfl, rfl, rfl, rfl, rfl, rfl⟩, ⟨rfl, rfl, rfl, rfl, rfl, rfl, rfl, rfl, rfl⟩, rfl, rfl⟩
    have g := M_goOnB (m := wM m (NN f) (M_place (M_rd m))) (f := f) rfl hf1
    unfold f_M_numeral
    repeat first | (with_reducible refine s_nmj1 ?_) | (with_reducible refine s_nmj2 ?_) | ((with_reducible refine s_nm ?_); intro y_ hy_; (try simp (disch := omega) only [n_lit, n_add, n_mul, n_sub, n_tn, n_ltT, n_ltF, n_leT, n_leF, n_eqT, n_eqF, n_div, n_ixT, n_ixF, n_not, n_md, n_dec, n_and1, n_and3, n_and7, n_and15, n_and31, n_and63, Nat.mod_eq_of_lt, Nat.zero_add, Nat.add_zero, Nat.zero_mul, Nat.sub_zero, not_false_eq_true, not_true_eq_false, upd_at, upd_ne] at hy_); subst hy_) | ((with_reducible refine s_pos ?_ ?_); · simp (disch := omega) only [n_lit, n_add, n_mul, n_sub, n_tn, n_ltT, n_ltF, n_leT, n_leF, n_eqT, n_eqF, n_div, n_ixT, n_ixF, n_not, n_md, n_dec, n_and1, n_and3, n_and7, n_and15, n_and31, n_and63, Nat.mod_eq_of_lt, Nat.zero_add, Nat.add_zero, Nat.zero_mul, Nat.sub_zero, not_false_eq_true, not_true_eq_false, upd_at, upd_ne]) | ((with_reducible refine s_neg ?_ ?_); · simp (disch := omega) only [n_lit, n_add, n_mul, n_sub, n_tn, n_ltT, n_ltF, n_leT, n_leF, n_eqT, n_eqF, n_div, n_ixT, n_ixF, n_not, n_md, n_dec, n_and1, n_and3, n_and7, n_and15, n_and31, n_and63, Nat.mod_eq_of_lt, Nat.zero_add, Nat.add_zero, Nat.zero_mul, Nat.sub_zero, not_false_eq_true, not_true_eq_false, upd_at, upd_ne])  | (with_reducible refine s_bd2 hm ?_) | (with_reducible refine s_bd g ?_)
    rfl
  rcases TK_num (lo := lo) (hi := hi) h10 (by omega) b4 with ⟨V, v1, v2, v3, v4, v5, v6, v7⟩ | ⟨V, W, v1, v2, v3, v4, v5, v6, v7⟩ | ⟨t, s', v1, v2, v3, v4, v5, v6⟩
  · obtain ⟨q', pl', sort', value', g1, g2, g3⟩ := AT_goOn hA
    have hm := n1 V v1 v2 v5 v6
    have hc := C_partOK (pr := pr) (v := tR rd pos tok val place) hp hk v3 v4 ⟨v1, v2⟩
    refine Or.inl ⟨_, tM m (NN q') (NN pl') sort' value', V, pl', q', v1, v2, cst_go hw hk hf hs ⟨by omega, by omega⟩ e1 hc, ?_, ?_, v7, g3, ⟨rfl, rfl, rfl, rfl, rfl, rfl⟩, ⟨rfl, rfl, rfl, rfl, rfl, rfl, rfl, rfl, rfl⟩, rfl, rfl, rfl, rfl, rfl⟩
    · unfold f_M_numeral
      repeat first | (with_reducible refine s_nmj1 ?_) | (with_reducible refine s_nmj2 ?_) | ((with_reducible refine s_nm ?_); intro y_ hy_; (try simp (disch := omega) only [n_lit, n_add, n_mul, n_sub, n_tn, n_ltT, n_ltF, n_leT, n_leF, n_eqT, n_eqF, n_div, n_ixT, n_ixF, n_not, n_md, n_dec, n_and1, n_and3, n_and7, n_and15, n_and31, n_and63, Nat.mod_eq_of_lt, Nat.zero_add, Nat.add_zero, Nat.zero_mul, Nat.sub_zero, not_false_eq_true, not_true_eq_false, upd_at, upd_ne] at hy_); subst hy_) | ((with_reducible refine s_pos ?_ ?_); · simp (disch := omega) only [n_lit, n_add, n_mul, n_sub, n_tn, n_ltT, n_ltF, n_leT, n_leF, n_eqT, n_eqF, n_div, n_ixT, n_ixF, n_not, n_md, n_dec, n_and1, n_and3, n_and7, n_and15, n_and31, n_and63, Nat.mod_eq_of_lt, Nat.zero_add, Nat.add_zero, Nat.zero_mul, Nat.sub_zero, not_false_eq_true, not_true_eq_false, upd_at, upd_ne]) | ((with_reducible refine s_neg ?_ ?_); · simp (disch := omega) only [n_lit, n_add, n_mul, n_sub, n_tn, n_ltT, n_ltF, n_leT, n_leF, n_eqT, n_eqF, n_div, n_ixT, n_ixF, n_not, n_md, n_dec, n_and1, n_and3, n_and7, n_and15, n_and31, n_and63, Nat.mod_eq_of_lt, Nat.zero_add, Nat.add_zero, Nat.zero_mul, Nat.sub_zero, not_false_eq_true, not_true_eq_false, upd_at, upd_ne])  | (with_reducible refine s_bd2 hm ?_) | (with_reducible refine s_bd g1 ?_)
      rfl
    · exact g2 _ (TP_C h3) h6 h1
  · refine Or.inr (hbad 2 (by omega) ?_ ?_)
    · exact C_partLow hp hk v3 v4 v1 (by omega)
    · exact n2 W v2 (by omega) v5 v6
  · refine Or.inr (hbad 1 (by omega) ?_ ?_)
    · exact C_partNo hp hk v5 ⟨v1, v3⟩
    · exact n3 s' v2 v4 v6
