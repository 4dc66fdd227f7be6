/-! LINES: at -/
theorem LBP {pr : T_Pg} {m : T_M} {nc b : Nat} (hnc : nc ≤ 140) (hb : b + nc ≤ 280) (h1 : Pg_nameCount pr = NN nc) (h2 : ∀ k, k < nc → Pg_names pr k = M_labelName (M_cd m) (b + k)) (val : Int32) :
    (∃ j, j < nc ∧ f_Pg_placeOf pr val = some (Pg_namedPlaces pr j) ∧ f_M_labelled m (NN b) (NN nc) val = some (NN j)) ∨ (f_Pg_placeOf pr val = some (-1) ∧ f_M_labelled m (NN b) (NN nc) val = some (-1)) := by
  have key : ∀ d x n1 n2, x + d = nc → d < n1 → d < n2 →
      (∃ j, j < nc ∧ f_Pg_placeOf_L2 pr val (fun (x2 : Int32) => (if ix x2 140 then (some ((Pg_namedPlaces pr) x2.toNatClampNeg)) else none)) (some (-1 : Int32)) n1 (NN x) = some (Pg_namedPlaces pr j) ∧ f_M_labelled_L3 m (NN b) (NN nc) val (fun x2 => some x2) (some (-1)) n2 (NN x) = some (NN j)) ∨
      (f_Pg_placeOf_L2 pr val (fun (x2 : Int32) => (if ix x2 140 then (some ((Pg_namedPlaces pr) x2.toNatClampNeg)) else none)) (some (-1 : Int32)) n1 (NN x) = some (-1) ∧ f_M_labelled_L3 m (NN b) (NN nc) val (fun x2 => some x2) (some (-1)) n2 (NN x) = some (-1)) := by
    intro d
    induction d with
    | zero =>
      intro x n1 n2 hx hn1 hn2
      obtain ⟨n1, rfl⟩ : ∃ q, n1 = q + 1 := ⟨n1 - 1, by omega⟩
      obtain ⟨n2, rfl⟩ : ∃ q, n2 = q + 1 := ⟨n2 - 1, by omega⟩
      obtain rfl : x = nc := by omega
      refine Or.inr ⟨?_, ?_⟩
      · rw [f_Pg_placeOf_L2]
        repeat first | (with_reducible refine s_nmj1 ?_) | (with_reducible refine s_nmj2 ?_) | ((with_reducible refine s_nm ?_); intro y_ hy_; (try simp (disch := omega) only [n_lit, n_add, n_mul, n_sub, n_tn, n_ltT, n_ltF, n_leT, n_leF, n_eqT, n_eqF, n_div, n_ixT, n_ixF, n_not, n_md, n_dec, n_and1, n_and3, n_and7, n_and15, n_and31, n_and63, Nat.mod_eq_of_lt, Nat.zero_add, Nat.add_zero, Nat.zero_mul, Nat.sub_zero, not_false_eq_true, not_true_eq_false, upd_at, upd_ne, h1] at hy_); subst hy_) | ((with_reducible refine s_pos ?_ ?_); · simp (disch := omega) only [n_lit, n_add, n_mul, n_sub, n_tn, n_ltT, n_ltF, n_leT, n_leF, n_eqT, n_eqF, n_div, n_ixT, n_ixF, n_not, n_md, n_dec, n_and1, n_and3, n_and7, n_and15, n_and31, n_and63, Nat.mod_eq_of_lt, Nat.zero_add, Nat.add_zero, Nat.zero_mul, Nat.sub_zero, not_false_eq_true, not_true_eq_false, upd_at, upd_ne, h1]) | ((with_reducible refine s_neg ?_ ?_); · simp (disch := omega) only [n_lit, n_add, n_mul, n_sub, n_tn, n_ltT, n_ltF, n_leT, n_leF, n_eqT, n_eqF, n_div, n_ixT, n_ixF, n_not, n_md, n_dec, n_and1, n_and3, n_and7, n_and15, n_and31, n_and63, Nat.mod_eq_of_lt, Nat.zero_add, Nat.add_zero, Nat.zero_mul, Nat.sub_zero, not_false_eq_true, not_true_eq_false, upd_at, upd_ne, h1]) 
        rfl
      · rw [f_M_labelled_L3]
        repeat first | (with_reducible refine s_nmj1 ?_) | (with_reducible refine s_nmj2 ?_) | ((with_reducible refine s_nm ?_); intro y_ hy_; (try simp (disch := omega) only [n_lit, n_add, n_mul, n_sub, n_tn, n_ltT, n_ltF, n_leT, n_leF, n_eqT, n_eqF, n_div, n_ixT, n_ixF, n_not, n_md, n_dec, n_and1, n_and3, n_and7, n_and15, n_and31, n_and63, Nat.mod_eq_of_lt, Nat.zero_add, Nat.add_zero, Nat.zero_mul, Nat.sub_zero, not_false_eq_true, not_true_eq_false, upd_at, upd_ne] at hy_); subst hy_) | ((with_reducible refine s_pos ?_ ?_); · simp (disch := omega) only [n_lit, n_add, n_mul, n_sub, n_tn, n_ltT, n_ltF, n_leT, n_leF, n_eqT, n_eqF, n_div, n_ixT, n_ixF, n_not, n_md, n_dec, n_and1, n_and3, n_and7, n_and15, n_and31, n_and63, Nat.mod_eq_of_lt, Nat.zero_add, Nat.add_zero, Nat.zero_mul, Nat.sub_zero, not_false_eq_true, not_true_eq_false, upd_at, upd_ne]) | ((with_reducible refine s_neg ?_ ?_); · simp (disch := omega) only [n_lit, n_add, n_mul, n_sub, n_tn, n_ltT, n_ltF, n_leT, n_leF, n_eqT, n_eqF, n_div, n_ixT, n_ixF, n_not, n_md, n_dec, n_and1, n_and3, n_and7, n_and15, n_and31, n_and63, Nat.mod_eq_of_lt, Nat.zero_add, Nat.add_zero, Nat.zero_mul, Nat.sub_zero, not_false_eq_true, not_true_eq_false, upd_at, upd_ne]) 
        rfl
    | succ d ih =>
      intro x n1 n2 hx hn1 hn2
      obtain ⟨n1, rfl⟩ : ∃ q, n1 = q + 1 := ⟨n1 - 1, by omega⟩
      obtain ⟨n2, rfl⟩ : ∃ q, n2 = q + 1 := ⟨n2 - 1, by omega⟩
      have e := h2 x (by omega)
      by_cases g : Pg_names pr x = val
      · have g2 : M_labelName (M_cd m) (b + x) = val := e.symm.trans g
        refine Or.inl ⟨x, by omega, ?_, ?_⟩
        · rw [f_Pg_placeOf_L2]
          repeat first | (with_reducible refine s_nmj1 ?_) | (with_reducible refine s_nmj2 ?_) | ((with_reducible refine s_nm ?_); intro y_ hy_; (try simp (disch := omega) only [n_lit, n_add, n_mul, n_sub, n_tn, n_ltT, n_ltF, n_leT, n_leF, n_eqT, n_eqF, n_div, n_ixT, n_ixF, n_not, n_md, n_dec, n_and1, n_and3, n_and7, n_and15, n_and31, n_and63, Nat.mod_eq_of_lt, Nat.zero_add, Nat.add_zero, Nat.zero_mul, Nat.sub_zero, not_false_eq_true, not_true_eq_false, upd_at, upd_ne, h1] at hy_); subst hy_) | ((with_reducible refine s_pos ?_ ?_); · simp (disch := omega) only [n_lit, n_add, n_mul, n_sub, n_tn, n_ltT, n_ltF, n_leT, n_leF, n_eqT, n_eqF, n_div, n_ixT, n_ixF, n_not, n_md, n_dec, n_and1, n_and3, n_and7, n_and15, n_and31, n_and63, Nat.mod_eq_of_lt, Nat.zero_add, Nat.add_zero, Nat.zero_mul, Nat.sub_zero, not_false_eq_true, not_true_eq_false, upd_at, upd_ne, h1]) | ((with_reducible refine s_neg ?_ ?_); · simp (disch := omega) only [n_lit, n_add, n_mul, n_sub, n_tn, n_ltT, n_ltF, n_leT, n_leF, n_eqT, n_eqF, n_div, n_ixT, n_ixF, n_not, n_md, n_dec, n_and1, n_and3, n_and7, n_and15, n_and31, n_and63, Nat.mod_eq_of_lt, Nat.zero_add, Nat.add_zero, Nat.zero_mul, Nat.sub_zero, not_false_eq_true, not_true_eq_false, upd_at, upd_ne, h1])  | ((with_reducible refine s_pos ?_ ?_); · (simp (disch := omega) only [n_lit, n_add, n_mul, n_sub, n_tn, n_ltT, n_ltF, n_leT, n_leF, n_eqT, n_eqF, n_div, n_ixT, n_ixF, n_not, n_md, n_dec, n_and1, n_and3, n_and7, n_and15, n_and31, n_and63, Nat.mod_eq_of_lt, Nat.zero_add, Nat.add_zero, Nat.zero_mul, Nat.sub_zero, not_false_eq_true, not_true_eq_false, upd_at, upd_ne]; exact g))
          rw [n_tn (by omega)]
        · rw [f_M_labelled_L3]
          repeat first | (with_reducible refine s_nmj1 ?_) | (with_reducible refine s_nmj2 ?_) | ((with_reducible refine s_nm ?_); intro y_ hy_; (try simp (disch := omega) only [n_lit, n_add, n_mul, n_sub, n_tn, n_ltT, n_ltF, n_leT, n_leF, n_eqT, n_eqF, n_div, n_ixT, n_ixF, n_not, n_md, n_dec, n_and1, n_and3, n_and7, n_and15, n_and31, n_and63, Nat.mod_eq_of_lt, Nat.zero_add, Nat.add_zero, Nat.zero_mul, Nat.sub_zero, not_false_eq_true, not_true_eq_false, upd_at, upd_ne] at hy_); subst hy_) | ((with_reducible refine s_pos ?_ ?_); · simp (disch := omega) only [n_lit, n_add, n_mul, n_sub, n_tn, n_ltT, n_ltF, n_leT, n_leF, n_eqT, n_eqF, n_div, n_ixT, n_ixF, n_not, n_md, n_dec, n_and1, n_and3, n_and7, n_and15, n_and31, n_and63, Nat.mod_eq_of_lt, Nat.zero_add, Nat.add_zero, Nat.zero_mul, Nat.sub_zero, not_false_eq_true, not_true_eq_false, upd_at, upd_ne]) | ((with_reducible refine s_neg ?_ ?_); · simp (disch := omega) only [n_lit, n_add, n_mul, n_sub, n_tn, n_ltT, n_ltF, n_leT, n_leF, n_eqT, n_eqF, n_div, n_ixT, n_ixF, n_not, n_md, n_dec, n_and1, n_and3, n_and7, n_and15, n_and31, n_and63, Nat.mod_eq_of_lt, Nat.zero_add, Nat.add_zero, Nat.zero_mul, Nat.sub_zero, not_false_eq_true, not_true_eq_false, upd_at, upd_ne])  | ((with_reducible refine s_pos ?_ ?_); · (simp (disch := omega) only [n_lit, n_add, n_mul, n_sub, n_tn, n_ltT, n_ltF, n_leT, n_leF, n_eqT, n_eqF, n_div, n_ixT, n_ixF, n_not, n_md, n_dec, n_and1, n_and3, n_and7, n_and15, n_and31, n_and63, Nat.mod_eq_of_lt, Nat.zero_add, Nat.add_zero, Nat.zero_mul, Nat.sub_zero, not_false_eq_true, not_true_eq_false, upd_at, upd_ne]; exact g2))
          rfl
      · have g2 : ¬ M_labelName (M_cd m) (b + x) = val := fun h => g (e.trans h)
        have c1 : f_Pg_placeOf_L2 pr val (fun (x2 : Int32) => (if ix x2 140 then (some ((Pg_namedPlaces pr) x2.toNatClampNeg)) else none)) (some (-1 : Int32)) (n1 + 1) (NN x) = f_Pg_placeOf_L2 pr val (fun (x2 : Int32) => (if ix x2 140 then (some ((Pg_namedPlaces pr) x2.toNatClampNeg)) else none)) (some (-1 : Int32)) n1 (NN (x + 1)) := by
          rw [f_Pg_placeOf_L2]
          repeat first | (with_reducible refine s_nmj1 ?_) | (with_reducible refine s_nmj2 ?_) | ((with_reducible refine s_nm ?_); intro y_ hy_; (try simp (disch := omega) only [n_lit, n_add, n_mul, n_sub, n_tn, n_ltT, n_ltF, n_leT, n_leF, n_eqT, n_eqF, n_div, n_ixT, n_ixF, n_not, n_md, n_dec, n_and1, n_and3, n_and7, n_and15, n_and31, n_and63, Nat.mod_eq_of_lt, Nat.zero_add, Nat.add_zero, Nat.zero_mul, Nat.sub_zero, not_false_eq_true, not_true_eq_false, upd_at, upd_ne, h1] at hy_); subst hy_) | ((with_reducible refine s_pos ?_ ?_); · simp (disch := omega) only [n_lit, n_add, n_mul, n_sub, n_tn, n_ltT, n_ltF, n_leT, n_leF, n_eqT, n_eqF, n_div, n_ixT, n_ixF, n_not, n_md, n_dec, n_and1, n_and3, n_and7, n_and15, n_and31, n_and63, Nat.mod_eq_of_lt, Nat.zero_add, Nat.add_zero, Nat.zero_mul, Nat.sub_zero, not_false_eq_true, not_true_eq_false, upd_at, upd_ne, h1]) | ((with_reducible refine s_neg ?_ ?_); · simp (disch := omega) only [n_lit, n_add, n_mul, n_sub, n_tn, n_ltT, n_ltF, n_leT, n_leF, n_eqT, n_eqF, n_div, n_ixT, n_ixF, n_not, n_md, n_dec, n_and1, n_and3, n_and7, n_and15, n_and31, n_and63, Nat.mod_eq_of_lt, Nat.zero_add, Nat.add_zero, Nat.zero_mul, Nat.sub_zero, not_false_eq_true, not_true_eq_false, upd_at, upd_ne, h1])  | ((with_reducible refine s_neg ?_ ?_); · (simp (disch := omega) only [n_lit, n_add, n_mul, n_sub, n_tn, n_ltT, n_ltF, n_leT, n_leF, n_eqT, n_eqF, n_div, n_ixT, n_ixF, n_not, n_md, n_dec, n_and1, n_and3, n_and7, n_and15, n_and31, n_and63, Nat.mod_eq_of_lt, Nat.zero_add, Nat.add_zero, Nat.zero_mul, Nat.sub_zero, not_false_eq_true, not_true_eq_false, upd_at, upd_ne]; exact g))
          rfl
        have c2 : f_M_labelled_L3 m (NN b) (NN nc) val (fun x2 => some x2) (some (-1)) (n2 + 1) (NN x) = f_M_labelled_L3 m (NN b) (NN nc) val (fun x2 => some x2) (some (-1)) n2 (NN (x + 1)) := by
          rw [f_M_labelled_L3]
          repeat first | (with_reducible refine s_nmj1 ?_) | (with_reducible refine s_nmj2 ?_) | ((with_reducible refine s_nm ?_); intro y_ hy_; (try simp (disch := omega) only [n_lit, n_add, n_mul, n_sub, n_tn, n_ltT, n_ltF, n_leT, n_leF, n_eqT, n_eqF, n_div, n_ixT, n_ixF, n_not, n_md, n_dec, n_and1, n_and3, n_and7, n_and15, n_and31, n_and63, Nat.mod_eq_of_lt, Nat.zero_add, Nat.add_zero, Nat.zero_mul, Nat.sub_zero, not_false_eq_true, not_true_eq_false, upd_at, upd_ne] at hy_); subst hy_) | ((with_reducible refine s_pos ?_ ?_); · simp (disch := omega) only [n_lit, n_add, n_mul, n_sub, n_tn, n_ltT, n_ltF, n_leT, n_leF, n_eqT, n_eqF, n_div, n_ixT, n_ixF, n_not, n_md, n_dec, n_and1, n_and3, n_and7, n_and15, n_and31, n_and63, Nat.mod_eq_of_lt, Nat.zero_add, Nat.add_zero, Nat.zero_mul, Nat.sub_zero, not_false_eq_true, not_true_eq_false, upd_at, upd_ne]) | ((with_reducible refine s_neg ?_ ?_); · simp (disch := omega) only [n_lit, n_add, n_mul, n_sub, n_tn, n_ltT, n_ltF, n_leT, n_leF, n_eqT, n_eqF, n_div, n_ixT, n_ixF, n_not, n_md, n_dec, n_and1, n_and3, n_and7, n_and15, n_and31, n_and63, Nat.mod_eq_of_lt, Nat.zero_add, Nat.add_zero, Nat.zero_mul, Nat.sub_zero, not_false_eq_true, not_true_eq_false, upd_at, upd_ne])  | ((with_reducible refine s_neg ?_ ?_); · (simp (disch := omega) only [n_lit, n_add, n_mul, n_sub, n_tn, n_ltT, n_ltF, n_leT, n_leF, n_eqT, n_eqF, n_div, n_ixT, n_ixF, n_not, n_md, n_dec, n_and1, n_and3, n_and7, n_and15, n_and31, n_and63, Nat.mod_eq_of_lt, Nat.zero_add, Nat.add_zero, Nat.zero_mul, Nat.sub_zero, not_false_eq_true, not_true_eq_false, upd_at, upd_ne]; exact g2))
          rfl
        rw [c1, c2]
        exact ih (x + 1) n1 n2 (by omega) (by omega) (by omega)
  unfold f_Pg_placeOf f_M_labelled
  exact key nc 0 LF LF (by omega) (lf_big (by omega)) (lf_big (by omega))
abbrev labC (c : T_Mc) (nc : Nat) (nm at_ : Int32) : T_Mc := (upd (M_number c) 19 (NN (nc + 1)), (M_codeSort c), (M_codeA c), (M_codeB c), (M_codeC c), (M_codeName c), (M_codePlace c), (M_codeTo c), upd (M_labelName c) (140 + nc) nm, upd (M_labelAt c) (140 + nc) at_, (M_data c))
theorem M_lineL {m v1 m3 : T_M} {nc : Nat} (h0 : M_sort (M_rd m) = NN 0) (h1 : M_value (M_rd m) = NN 6) (eg : f_M_goOn m = some v1) (hf : M_fault (M_rd v1) = NN 0) (h9 : M_number (M_cd v1) 19 = NN nc) (hnc : nc < 140)
    (hc : (M_sort (M_rd v1) = NN 1 ∧ f_M_labelled v1 (NN 140) (NN nc) (M_value (M_rd v1)) = some (-1) ∧ f_M_token (sC v1 (labC (M_cd v1) nc (M_value (M_rd v1)) (M_number (M_cd v1) 18))) = some m3) ∨
      (∃ j, j < 140 ∧ M_sort (M_rd v1) = NN 1 ∧ f_M_labelled v1 (NN 140) (NN nc) (M_value (M_rd v1)) = some (NN j) ∧ m3 = wM v1 (NN 3) (M_place (M_rd v1))) ∨ (∃ s, s ≠ 1 ∧ s < 10 ∧ M_sort (M_rd v1) = NN s ∧ m3 = wM v1 (NN 1) (M_place (M_rd v1)))) : f_M_readLine m = ML m3 := by
  have r9 : f_M_reading v1 (9 : Int32) = some (NN nc) := (M_reading1 (k := 9) (by decide)).trans (congrArg some h9)
  have rr : ∀ v : T_M, ∀ k, k < 10 → ∀ x, M_number (M_cd v) (10 + k) = x → f_M_reading v (NN k) = some x := fun v k hk x hx => (M_reading1 hk).trans (congrArg some hx)
  have eL : f_M_readLabel m = some m3 := by
    unfold f_M_readLabel
    rcases hc with ⟨c1, c2, c3⟩ | ⟨j, c0, c1, c2, rfl⟩ | ⟨s, c1, c2, c3, rfl⟩
    · have c2' : f_M_labelled v1 (140 : Int32) (NN nc) (M_value (M_rd v1)) = some (-1) := c2
      repeat first | (with_reducible refine s_nmj1 ?_) | (with_reducible refine s_nmj2 ?_) | ((with_reducible refine s_nm ?_); intro y_ hy_; (try simp (disch := omega) only [n_lit, n_add, n_mul, n_sub, n_tn, n_ltT, n_ltF, n_leT, n_leF, n_eqT, n_eqF, n_div, n_ixT, n_ixF, n_not, n_md, n_dec, n_and1, n_and3, n_and7, n_and15, n_and31, n_and63, Nat.mod_eq_of_lt, Nat.zero_add, Nat.add_zero, Nat.zero_mul, Nat.sub_zero, not_false_eq_true, not_true_eq_false, upd_at, upd_ne, hf, c1] at hy_); subst hy_) | ((with_reducible refine s_pos ?_ ?_); · simp (disch := omega) only [n_lit, n_add, n_mul, n_sub, n_tn, n_ltT, n_ltF, n_leT, n_leF, n_eqT, n_eqF, n_div, n_ixT, n_ixF, n_not, n_md, n_dec, n_and1, n_and3, n_and7, n_and15, n_and31, n_and63, Nat.mod_eq_of_lt, Nat.zero_add, Nat.add_zero, Nat.zero_mul, Nat.sub_zero, not_false_eq_true, not_true_eq_false, upd_at, upd_ne, hf, c1]) | ((with_reducible refine s_neg ?_ ?_); · simp (disch := omega) only [n_lit, n_add, n_mul, n_sub, n_tn, n_ltT, n_ltF, n_leT, n_leF, n_eqT, n_eqF, n_div, n_ixT, n_ixF, n_not, n_md, n_dec, n_and1, n_and3, n_and7, n_and15, n_and31, n_and63, Nat.mod_eq_of_lt, Nat.zero_add, Nat.add_zero, Nat.zero_mul, Nat.sub_zero, not_false_eq_true, not_true_eq_false, upd_at, upd_ne, hf, c1])  | (with_reducible refine s_bd eg ?_) | (with_reducible refine s_bd r9 ?_) | (with_reducible refine s_bd c2' ?_) | ((with_reducible refine s_pos ?_ ?_); · rfl)
      refine s_bd (rr _ 9 (by decide) (NN nc) h9) ?_
      refine s_bd (rr _ 8 (by decide) (M_number (M_cd v1) 18) rfl) ?_
      repeat first | (with_reducible refine s_nmj1 ?_) | (with_reducible refine s_nmj2 ?_) | ((with_reducible refine s_nm ?_); intro y_ hy_; (try simp (disch := omega) only [n_lit, n_add, n_mul, n_sub, n_tn, n_ltT, n_ltF, n_leT, n_leF, n_eqT, n_eqF, n_div, n_ixT, n_ixF, n_not, n_md, n_dec, n_and1, n_and3, n_and7, n_and15, n_and31, n_and63, Nat.mod_eq_of_lt, Nat.zero_add, Nat.add_zero, Nat.zero_mul, Nat.sub_zero, not_false_eq_true, not_true_eq_false, upd_at, upd_ne] at hy_); subst hy_) | ((with_reducible refine s_pos ?_ ?_); · simp (disch := omega) only [n_lit, n_add, n_mul, n_sub, n_tn, n_ltT, n_ltF, n_leT, n_leF, n_eqT, n_eqF, n_div, n_ixT, n_ixF, n_not, n_md, n_dec, n_and1, n_and3, n_and7, n_and15, n_and31, n_and63, Nat.mod_eq_of_lt, Nat.zero_add, Nat.add_zero, Nat.zero_mul, Nat.sub_zero, not_false_eq_true, not_true_eq_false, upd_at, upd_ne]) | ((with_reducible refine s_neg ?_ ?_); · simp (disch := omega) only [n_lit, n_add, n_mul, n_sub, n_tn, n_ltT, n_ltF, n_leT, n_leF, n_eqT, n_eqF, n_div, n_ixT, n_ixF, n_not, n_md, n_dec, n_and1, n_and3, n_and7, n_and15, n_and31, n_and63, Nat.mod_eq_of_lt, Nat.zero_add, Nat.add_zero, Nat.zero_mul, Nat.sub_zero, not_false_eq_true, not_true_eq_false, upd_at, upd_ne]) 
      refine s_bd (rr _ 9 (by decide) (NN nc) h9) ?_
      refine s_bd (M_reads1 (k := 9) (by decide) _) ?_
      rw [show NN nc + (1 : Int32) = NN (nc + 1) from n_add nc 1]
      refine s_bd c3 ?_
      rfl
    · have c2' : f_M_labelled v1 (140 : Int32) (NN nc) (M_value (M_rd v1)) = some (NN j) := c2
      have z := n_negF (a := j) (b := 1) (by omega) (by omega)
      have w1 : f_M_wrong v1 (3 : Int32) = some (wM v1 (NN 3) (M_place (M_rd v1))) := M_wrong0 hf (NN 3)
      have w4 : M_fault (M_rd (wM v1 (NN 3) (M_place (M_rd v1)))) = NN 3 := rfl
      repeat first | (with_reducible refine s_nmj1 ?_) | (with_reducible refine s_nmj2 ?_) | ((with_reducible refine s_nm ?_); intro y_ hy_; (try simp (disch := omega) only [n_lit, n_add, n_mul, n_sub, n_tn, n_ltT, n_ltF, n_leT, n_leF, n_eqT, n_eqF, n_div, n_ixT, n_ixF, n_not, n_md, n_dec, n_and1, n_and3, n_and7, n_and15, n_and31, n_and63, Nat.mod_eq_of_lt, Nat.zero_add, Nat.add_zero, Nat.zero_mul, Nat.sub_zero, not_false_eq_true, not_true_eq_false, upd_at, upd_ne, hf, c1, z, w4] at hy_); subst hy_) | ((with_reducible refine s_pos ?_ ?_); · simp (disch := omega) only [n_lit, n_add, n_mul, n_sub, n_tn, n_ltT, n_ltF, n_leT, n_leF, n_eqT, n_eqF, n_div, n_ixT, n_ixF, n_not, n_md, n_dec, n_and1, n_and3, n_and7, n_and15, n_and31, n_and63, Nat.mod_eq_of_lt, Nat.zero_add, Nat.add_zero, Nat.zero_mul, Nat.sub_zero, not_false_eq_true, not_true_eq_false, upd_at, upd_ne, hf, c1, z, w4]) | ((with_reducible refine s_neg ?_ ?_); · simp (disch := omega) only [n_lit, n_add, n_mul, n_sub, n_tn, n_ltT, n_ltF, n_leT, n_leF, n_eqT, n_eqF, n_div, n_ixT, n_ixF, n_not, n_md, n_dec, n_and1, n_and3, n_and7, n_and15, n_and31, n_and63, Nat.mod_eq_of_lt, Nat.zero_add, Nat.add_zero, Nat.zero_mul, Nat.sub_zero, not_false_eq_true, not_true_eq_false, upd_at, upd_ne, hf, c1, z, w4])  | (with_reducible refine s_bd eg ?_) | (with_reducible refine s_bd r9 ?_) | (with_reducible refine s_bd c2' ?_) | (with_reducible refine s_bd w1 ?_)
      rfl
    · have w1 : f_M_wrong v1 (1 : Int32) = some (wM v1 (NN 1) (M_place (M_rd v1))) := M_wrong0 hf (NN 1)
      have w4 : M_fault (M_rd (wM v1 (NN 1) (M_place (M_rd v1)))) = NN 1 := rfl
      repeat first | (with_reducible refine s_nmj1 ?_) | (with_reducible refine s_nmj2 ?_) | ((with_reducible refine s_nm ?_); intro y_ hy_; (try simp (disch := omega) only [n_lit, n_add, n_mul, n_sub, n_tn, n_ltT, n_ltF, n_leT, n_leF, n_eqT, n_eqF, n_div, n_ixT, n_ixF, n_not, n_md, n_dec, n_and1, n_and3, n_and7, n_and15, n_and31, n_and63, Nat.mod_eq_of_lt, Nat.zero_add, Nat.add_zero, Nat.zero_mul, Nat.sub_zero, not_false_eq_true, not_true_eq_false, upd_at, upd_ne, hf, c3, w4] at hy_); subst hy_) | ((with_reducible refine s_pos ?_ ?_); · simp (disch := omega) only [n_lit, n_add, n_mul, n_sub, n_tn, n_ltT, n_ltF, n_leT, n_leF, n_eqT, n_eqF, n_div, n_ixT, n_ixF, n_not, n_md, n_dec, n_and1, n_and3, n_and7, n_and15, n_and31, n_and63, Nat.mod_eq_of_lt, Nat.zero_add, Nat.add_zero, Nat.zero_mul, Nat.sub_zero, not_false_eq_true, not_true_eq_false, upd_at, upd_ne, hf, c3, w4]) | ((with_reducible refine s_neg ?_ ?_); · simp (disch := omega) only [n_lit, n_add, n_mul, n_sub, n_tn, n_ltT, n_ltF, n_leT, n_leF, n_eqT, n_eqF, n_div, n_ixT, n_ixF, n_not, n_md, n_dec, n_and1, n_and3, n_and7, n_and15, n_and31, n_and63, Nat.mod_eq_of_lt, Nat.zero_add, Nat.add_zero, Nat.zero_mul, Nat.sub_zero, not_false_eq_true, not_true_eq_false, upd_at, upd_ne, hf, c3, w4])  | (with_reducible refine s_bd eg ?_) | (with_reducible refine s_bd w1 ?_)
      rfl
  unfold f_M_readLine
  repeat first | (with_reducible refine s_nmj1 ?_) | (with_reducible refine s_nmj2 ?_) | ((with_reducible refine s_nm ?_); intro y_ hy_; (try simp (disch := omega) only [n_lit, n_add, n_mul, n_sub, n_tn, n_ltT, n_ltF, n_leT, n_leF, n_eqT, n_eqF, n_div, n_ixT, n_ixF, n_not, n_md, n_dec, n_and1, n_and3, n_and7, n_and15, n_and31, n_and63, Nat.mod_eq_of_lt, Nat.zero_add, Nat.add_zero, Nat.zero_mul, Nat.sub_zero, not_false_eq_true, not_true_eq_false, upd_at, upd_ne, h0, h1] at hy_); subst hy_) | ((with_reducible refine s_pos ?_ ?_); · simp (disch := omega) only [n_lit, n_add, n_mul, n_sub, n_tn, n_ltT, n_ltF, n_leT, n_leF, n_eqT, n_eqF, n_div, n_ixT, n_ixF, n_not, n_md, n_dec, n_and1, n_and3, n_and7, n_and15, n_and31, n_and63, Nat.mod_eq_of_lt, Nat.zero_add, Nat.add_zero, Nat.zero_mul, Nat.sub_zero, not_false_eq_true, not_true_eq_false, upd_at, upd_ne, h0, h1]) | ((with_reducible refine s_neg ?_ ?_); · simp (disch := omega) only [n_lit, n_add, n_mul, n_sub, n_tn, n_ltT, n_ltF, n_leT, n_leF, n_eqT, n_eqF, n_div, n_ixT, n_ixF, n_not, n_md, n_dec, n_and1, n_and3, n_and7, n_and15, n_and31, n_and63, Nat.mod_eq_of_lt, Nat.zero_add, Nat.add_zero, Nat.zero_mul, Nat.sub_zero, not_false_eq_true, not_true_eq_false, upd_at, upd_ne, h0, h1])  | (with_reducible refine s_bd eL ?_)
  rfl
theorem C_nameN {v : T_Rd} {pr : T_Pg} {V : Nat} (hw : WD v) (hV : V < 1073741824) (hn : ∀ k, k < 25 → V ≠ WP k) (h1 : Rd_token v = NN 1) (h2 : Rd_value v = NN V) (k : Int32) :
    (f_Pg_placeOf pr (NN V) = some (-1) → f_Rd_readPart v pr (NN 110) k = some (pR v (upd (Rd_parts v) 0 (NN V)))) ∧
    (∀ a, a ≤ 40 → f_Pg_placeOf pr (NN V) = some (NN a) → f_Rd_readPart v pr (NN 110) k = some (wR v (NN 3) (Rd_place v))) := by
  have z1 := n_negF (a := V) (b := 1) (by omega) (by omega)
  have e0 := C_wnN hw hV hn
  rw [← h2] at e0
  refine ⟨fun hp => ?_, fun a ha hp => ?_⟩
  · rw [← h2] at hp
    have e : f_Rd_readName v pr (NN 110) = some (pR v (upd (Rd_parts v) 0 (NN V))) := by
      unfold f_Rd_readName
      repeat first | (with_reducible refine s_nmj1 ?_) | (with_reducible refine s_nmj2 ?_) | ((with_reducible refine s_nm ?_); intro y_ hy_; (try simp (disch := omega) only [n_lit, n_add, n_mul, n_sub, n_tn, n_ltT, n_ltF, n_leT, n_leF, n_eqT, n_eqF, n_div, n_ixT, n_ixF, n_not, n_md, n_dec, n_and1, n_and3, n_and7, n_and15, n_and31, n_and63, Nat.mod_eq_of_lt, Nat.zero_add, Nat.add_zero, Nat.zero_mul, Nat.sub_zero, not_false_eq_true, not_true_eq_false, upd_at, upd_ne, h1, h2, z1] at hy_); subst hy_) | ((with_reducible refine s_pos ?_ ?_); · simp (disch := omega) only [n_lit, n_add, n_mul, n_sub, n_tn, n_ltT, n_ltF, n_leT, n_leF, n_eqT, n_eqF, n_div, n_ixT, n_ixF, n_not, n_md, n_dec, n_and1, n_and3, n_and7, n_and15, n_and31, n_and63, Nat.mod_eq_of_lt, Nat.zero_add, Nat.add_zero, Nat.zero_mul, Nat.sub_zero, not_false_eq_true, not_true_eq_false, upd_at, upd_ne, h1, h2, z1]) | ((with_reducible refine s_neg ?_ ?_); · simp (disch := omega) only [n_lit, n_add, n_mul, n_sub, n_tn, n_ltT, n_ltF, n_leT, n_leF, n_eqT, n_eqF, n_div, n_ixT, n_ixF, n_not, n_md, n_dec, n_and1, n_and3, n_and7, n_and15, n_and31, n_and63, Nat.mod_eq_of_lt, Nat.zero_add, Nat.add_zero, Nat.zero_mul, Nat.sub_zero, not_false_eq_true, not_true_eq_false, upd_at, upd_ne, h1, h2, z1])  | (with_reducible refine s_bd e0 ?_) | ((with_reducible refine s_pos ?_ ?_); · rfl) | (with_reducible refine s_bd hp ?_)
      unfold pR
      rw [h2]
    unfold f_Rd_readPart
    repeat first | (with_reducible refine s_nmj1 ?_) | (with_reducible refine s_nmj2 ?_) | ((with_reducible refine s_nm ?_); intro y_ hy_; (try simp (disch := omega) only [n_lit, n_add, n_mul, n_sub, n_tn, n_ltT, n_ltF, n_leT, n_leF, n_eqT, n_eqF, n_div, n_ixT, n_ixF, n_not, n_md, n_dec, n_and1, n_and3, n_and7, n_and15, n_and31, n_and63, Nat.mod_eq_of_lt, Nat.zero_add, Nat.add_zero, Nat.zero_mul, Nat.sub_zero, not_false_eq_true, not_true_eq_false, upd_at, upd_ne] at hy_); subst hy_) | ((with_reducible refine s_pos ?_ ?_); · simp (disch := omega) only [n_lit, n_add, n_mul, n_sub, n_tn, n_ltT, n_ltF, n_leT, n_leF, n_eqT, n_eqF, n_div, n_ixT, n_ixF, n_not, n_md, n_dec, n_and1, n_and3, n_and7, n_and15, n_and31, n_and63, Nat.mod_eq_of_lt, Nat.zero_add, Nat.add_zero, Nat.zero_mul, Nat.sub_zero, not_false_eq_true, not_true_eq_false, upd_at, upd_ne]) | ((with_reducible refine s_neg ?_ ?_); · simp (disch := omega) only [n_lit, n_add, n_mul, n_sub, n_tn, n_ltT, n_ltF, n_leT, n_leF, n_eqT, n_eqF, n_div, n_ixT, n_ixF, n_not, n_md, n_dec, n_and1, n_and3, n_and7, n_and15, n_and31, n_and63, Nat.mod_eq_of_lt, Nat.zero_add, Nat.add_zero, Nat.zero_mul, Nat.sub_zero, not_false_eq_true, not_true_eq_false, upd_at, upd_ne])  | (with_reducible refine s_bd e ?_)
    rfl
  · rw [← h2] at hp
    have z2 := n_negF (a := a) (b := 1) (by omega) (by omega)
    have e : f_Rd_readName v pr (NN 110) = some (wR v (NN 3) (Rd_place v)) := by
      unfold f_Rd_readName
      repeat first | (with_reducible refine s_nmj1 ?_) | (with_reducible refine s_nmj2 ?_) | ((with_reducible refine s_nm ?_); intro y_ hy_; (try simp (disch := omega) only [n_lit, n_add, n_mul, n_sub, n_tn, n_ltT, n_ltF, n_leT, n_leF, n_eqT, n_eqF, n_div, n_ixT, n_ixF, n_not, n_md, n_dec, n_and1, n_and3, n_and7, n_and15, n_and31, n_and63, Nat.mod_eq_of_lt, Nat.zero_add, Nat.add_zero, Nat.zero_mul, Nat.sub_zero, not_false_eq_true, not_true_eq_false, upd_at, upd_ne, h1, h2, z1, z2] at hy_); subst hy_) | ((with_reducible refine s_pos ?_ ?_); · simp (disch := omega) only [n_lit, n_add, n_mul, n_sub, n_tn, n_ltT, n_ltF, n_leT, n_leF, n_eqT, n_eqF, n_div, n_ixT, n_ixF, n_not, n_md, n_dec, n_and1, n_and3, n_and7, n_and15, n_and31, n_and63, Nat.mod_eq_of_lt, Nat.zero_add, Nat.add_zero, Nat.zero_mul, Nat.sub_zero, not_false_eq_true, not_true_eq_false, upd_at, upd_ne, h1, h2, z1, z2]) | ((with_reducible refine s_neg ?_ ?_); · simp (disch := omega) only [n_lit, n_add, n_mul, n_sub, n_tn, n_ltT, n_ltF, n_leT, n_leF, n_eqT, n_eqF, n_div, n_ixT, n_ixF, n_not, n_md, n_dec, n_and1, n_and3, n_and7, n_and15, n_and31, n_and63, Nat.mod_eq_of_lt, Nat.zero_add, Nat.add_zero, Nat.zero_mul, Nat.sub_zero, not_false_eq_true, not_true_eq_false, upd_at, upd_ne, h1, h2, z1, z2])  | (with_reducible refine s_bd e0 ?_) | ((with_reducible refine s_pos ?_ ?_); · rfl) | (with_reducible refine s_bd hp ?_) | (with_reducible refine s_bd (C_fail _ _ _) ?_)
      rfl
    unfold f_Rd_readPart
    repeat first | (with_reducible refine s_nmj1 ?_) | (with_reducible refine s_nmj2 ?_) | ((with_reducible refine s_nm ?_); intro y_ hy_; (try simp (disch := omega) only [n_lit, n_add, n_mul, n_sub, n_tn, n_ltT, n_ltF, n_leT, n_leF, n_eqT, n_eqF, n_div, n_ixT, n_ixF, n_not, n_md, n_dec, n_and1, n_and3, n_and7, n_and15, n_and31, n_and63, Nat.mod_eq_of_lt, Nat.zero_add, Nat.add_zero, Nat.zero_mul, Nat.sub_zero, not_false_eq_true, not_true_eq_false, upd_at, upd_ne] at hy_); subst hy_) | ((with_reducible refine s_pos ?_ ?_); · simp (disch := omega) only [n_lit, n_add, n_mul, n_sub, n_tn, n_ltT, n_ltF, n_leT, n_leF, n_eqT, n_eqF, n_div, n_ixT, n_ixF, n_not, n_md, n_dec, n_and1, n_and3, n_and7, n_and15, n_and31, n_and63, Nat.mod_eq_of_lt, Nat.zero_add, Nat.add_zero, Nat.zero_mul, Nat.sub_zero, not_false_eq_true, not_true_eq_false, upd_at, upd_ne]) | ((with_reducible refine s_neg ?_ ?_); · simp (disch := omega) only [n_lit, n_add, n_mul, n_sub, n_tn, n_ltT, n_ltF, n_leT, n_leF, n_eqT, n_eqF, n_div, n_ixT, n_ixF, n_not, n_md, n_dec, n_and1, n_and3, n_and7, n_and15, n_and31, n_and63, Nat.mod_eq_of_lt, Nat.zero_add, Nat.add_zero, Nat.zero_mul, Nat.sub_zero, not_false_eq_true, not_true_eq_false, upd_at, upd_ne])  | (with_reducible refine s_bd e ?_)
    rfl
theorem C_takeName {v : T_Rd} {pr : T_Pg} {nc : Nat} (h : Pg_nameCount pr = NN nc) (hnc : nc < 140) : f_Rd_takeLine v pr (NN 6) = some (v, ((Pg_code pr), (Pg_first pr), (Pg_second pr), (Pg_third pr), (Pg_rules pr), (Pg_data pr), upd (Pg_names pr) nc (Rd_parts v 0), upd (Pg_namedPlaces pr) nc (Pg_size pr), NN (nc + 1), (Pg_size pr), (Pg_lines pr))) := by
  have e : f_Pg_nameNext pr ((Rd_parts v) (0 : Int32).toNatClampNeg) = some ((Pg_code pr), (Pg_first pr), (Pg_second pr), (Pg_third pr), (Pg_rules pr), (Pg_data pr), upd (Pg_names pr) nc (Rd_parts v 0), upd (Pg_namedPlaces pr) nc (Pg_size pr), NN (nc + 1), (Pg_size pr), (Pg_lines pr)) := by
    unfold f_Pg_nameNext
    repeat first | (with_reducible refine s_nmj1 ?_) | (with_reducible refine s_nmj2 ?_) | ((with_reducible refine s_nm ?_); intro y_ hy_; (try simp (disch := omega) only [n_lit, n_add, n_mul, n_sub, n_tn, n_ltT, n_ltF, n_leT, n_leF, n_eqT, n_eqF, n_div, n_ixT, n_ixF, n_not, n_md, n_dec, n_and1, n_and3, n_and7, n_and15, n_and31, n_and63, Nat.mod_eq_of_lt, Nat.zero_add, Nat.add_zero, Nat.zero_mul, Nat.sub_zero, not_false_eq_true, not_true_eq_false, upd_at, upd_ne, h] at hy_); subst hy_) | ((with_reducible refine s_pos ?_ ?_); · simp (disch := omega) only [n_lit, n_add, n_mul, n_sub, n_tn, n_ltT, n_ltF, n_leT, n_leF, n_eqT, n_eqF, n_div, n_ixT, n_ixF, n_not, n_md, n_dec, n_and1, n_and3, n_and7, n_and15, n_and31, n_and63, Nat.mod_eq_of_lt, Nat.zero_add, Nat.add_zero, Nat.zero_mul, Nat.sub_zero, not_false_eq_true, not_true_eq_false, upd_at, upd_ne, h]) | ((with_reducible refine s_neg ?_ ?_); · simp (disch := omega) only [n_lit, n_add, n_mul, n_sub, n_tn, n_ltT, n_ltF, n_leT, n_leF, n_eqT, n_eqF, n_div, n_ixT, n_ixF, n_not, n_md, n_dec, n_and1, n_and3, n_and7, n_and15, n_and31, n_and63, Nat.mod_eq_of_lt, Nat.zero_add, Nat.add_zero, Nat.zero_mul, Nat.sub_zero, not_false_eq_true, not_true_eq_false, upd_at, upd_ne, h]) 
    rfl
  unfold f_Rd_takeLine
  repeat first | (with_reducible refine s_nmj1 ?_) | (with_reducible refine s_nmj2 ?_) | ((with_reducible refine s_nm ?_); intro y_ hy_; (try simp (disch := omega) only [n_lit, n_add, n_mul, n_sub, n_tn, n_ltT, n_ltF, n_leT, n_leF, n_eqT, n_eqF, n_div, n_ixT, n_ixF, n_not, n_md, n_dec, n_and1, n_and3, n_and7, n_and15, n_and31, n_and63, Nat.mod_eq_of_lt, Nat.zero_add, Nat.add_zero, Nat.zero_mul, Nat.sub_zero, not_false_eq_true, not_true_eq_false, upd_at, upd_ne] at hy_); subst hy_) | ((with_reducible refine s_pos ?_ ?_); · simp (disch := omega) only [n_lit, n_add, n_mul, n_sub, n_tn, n_ltT, n_ltF, n_leT, n_leF, n_eqT, n_eqF, n_div, n_ixT, n_ixF, n_not, n_md, n_dec, n_and1, n_and3, n_and7, n_and15, n_and31, n_and63, Nat.mod_eq_of_lt, Nat.zero_add, Nat.add_zero, Nat.zero_mul, Nat.sub_zero, not_false_eq_true, not_true_eq_false, upd_at, upd_ne]) | ((with_reducible refine s_neg ?_ ?_); · simp (disch := omega) only [n_lit, n_add, n_mul, n_sub, n_tn, n_ltT, n_ltF, n_leT, n_leF, n_eqT, n_eqF, n_div, n_ixT, n_ixF, n_not, n_md, n_dec, n_and1, n_and3, n_and7, n_and15, n_and31, n_and63, Nat.mod_eq_of_lt, Nat.zero_add, Nat.add_zero, Nat.zero_mul, Nat.sub_zero, not_false_eq_true, not_true_eq_false, upd_at, upd_ne])  | (with_reducible refine s_bd e ?_)
  rfl
theorem line_label {T : Nat → Nat} {n : Nat} {rd : T_Rd} {pr : T_Pg} {m : T_M} {pl q sz nc : Nat} (hA : AT T n rd m pl q) (hwd : WD rd) (hsd : SD rd) (hD : DR rd pr m sz nc) (h1 : Rd_token rd = NN 1) (h2 : Rd_value rd = NN (WP 6)) (h3 : M_sort (M_rd m) = NN 0) (h4 : M_value (M_rd m) = NN 6) (hq : q = pl + 2) (hq2 : q = n ∨ ¬ small T q) (hnc5 : 5 * nc ≤ pl) : LOK T n rd pr m (pl + 4) sz (nc + 1) ∨ LBAD T n rd pr m := by
  obtain ⟨x1, x2, x3, x4, x5, x6, x7, x8, x9, x10⟩ := id hA
  have hn7 := x3.2.2.1
  obtain ⟨q', pl', sort', value', g1, g2, g3⟩ := AT_goOn hA
  have hA0 := g2 (pR rd (z3 (Rd_parts rd))) (TP_C x3) x6 x1
  have hb : tb (Rd_toldRules rd) 6 = NN 0 := by rw [hD.2.2.2.2.2.2.2.2.1 6 (by omega), if_neg (by omega)]
  have hC0 := C_head (pr := pr) hwd (by omega : 6 < 25) h1 h2 hb hD.1.1 hD.1.2.2 (Or.inl (by omega))
  obtain ⟨r0, hr0⟩ : ∃ r0, r0 = pR rd (z3 (Rd_parts rd)) := ⟨_, rfl⟩
  rw [← hr0] at hC0 hA0
  have hfr0 : FR1 rd r0 := by rw [hr0]; exact ⟨rfl, rfl, rfl, rfl, rfl, rfl⟩
  have hwa0 : Rd_wantedPlaces r0 = Rd_wantedPlaces rd := by rw [hr0]; rfl
  have htd0 : Rd_toldData r0 = Rd_toldData rd := by rw [hr0]; rfl
  have hff0 : Rd_fault r0 = NN 0 := by rw [hr0]; exact x1
  obtain ⟨m1, hm1⟩ : ∃ m1, m1 = tM m (NN q') (NN pl') sort' value' := ⟨_, rfl⟩
  rw [← hm1] at g1 hA0
  have hfm : FM1 m m1 := by rw [hm1]; exact ⟨rfl, rfl, rfl, rfl, rfl, rfl, rfl, rfl, rfl⟩
  have hcd1 : M_cd m1 = M_cd m := by rw [hm1]; rfl
  have hhd1 : M_hasData (M_rd m1) = M_hasData (M_rd m) := by rw [hm1]; rfl
  obtain ⟨pos, tok, val, place, e1, hA1⟩ := hA0
  obtain ⟨r1', hr1⟩ : ∃ r1', r1' = tR r0 pos tok val place := ⟨_, rfl⟩
  rw [← hr1] at e1 hA1
  have hfr1 : FR1 rd r1' := FR1_trans hfr0 (by rw [hr1]; exact ⟨rfl, rfl, rfl, rfl, rfl, rfl⟩)
  have hwa1 : Rd_wantedPlaces r1' = Rd_wantedPlaces rd := by rw [hr1]; exact hwa0
  have htd1 : Rd_toldData r1' = Rd_toldData rd := by rw [hr1]; exact htd0
  have hwd1 : WD r1' := fun k hk => by rw [hfr1.2.2.1]; exact hwd k hk
  obtain ⟨y1, y2, y3, y4, y5, y6, y7, y8, y9, y10⟩ := id hA1
  have hs0 : Rd_sorts r0 18 = NN 110 := (congrFun hfr0.2.2.2.1 _).trans (hsd 18 (by omega))
  have bad : ∀ f m3, f ≠ 0 ∧ f < 10 → f_Rd_readPart r1' pr (NN 110) (NN 0) = some (wR r1' (NN f) (Rd_place r1')) → f_M_readLine m = ML m3 → m3 = wM m1 (NN f) (M_place (M_rd m1)) → LBAD T n rd pr m := by
    intro f m3 hf hc hM hm3
    have c0 := cst_go (pr := pr) (w := 6) (k := 0) (by omega) (by omega) hff0 hs0 ⟨by omega, by omega⟩ e1 hc
    have hF : Rd_fault (wR r1' (NN f) (Rd_place r1')) = NN f := rfl
    rw [c0, bd_some, cst_bad hF hf, bd_some, cst_bad hF hf, bd_some] at hC0
    obtain ⟨m1', m2', m3', m4', m5', m6', m7', m8', m9'⟩ := hfm
    obtain ⟨f1, f2, f3, f4, f5, f6⟩ := hfr1
    refine bad_end hC0 hM (by rw [hm3]; exact AT_bad hA1 hf) ⟨⟨f1, f2, f3, f4, f5⟩, ?_, ?_⟩
    · rw [hm3]; exact ⟨m1', m2', m3', m4', m5', m6', m7'⟩
    · rw [hm3]; show LOW (M_cd m) (M_cd m1); rw [hcd1]; exact LOW_refl _
  obtain ⟨⟨d1, d2, d3⟩, ⟨d4a, d4b, d4c⟩, d5, d6, d7, d8, d9, d10, d11, d12, d13, d14⟩ := id hD
  have hnc0 : nc < 140 := by omega
  have h9 : M_number (M_cd m1) 19 = NN nc := by rw [hcd1]; exact d4b
  rcases TK_name y10 with ⟨V, v1, v2, v3, v4, v5, v6, v7, v8⟩ | ⟨⟨s, s1, s2, s3⟩, hb2⟩
  · have hpl3 : pl + 3 ≤ pl' := by
      by_cases g : pl' = q
      · subst g
        rcases hq2 with h | h
        · omega
        · exact absurd v7 h
      · omega
    obtain ⟨nA, nB⟩ := C_nameN (pr := pr) hwd1 v1 v4 v2 v3 (NN 0)
    rcases LBP (m := m1) (b := 140) d4c (by omega) d4a (fun k hk => by rw [hcd1]; exact (d8 k hk).1) (NN V) with ⟨j, j1, j2, j3⟩ | ⟨j2, j3⟩
    · obtain ⟨a, a1, a2, a3⟩ := (d8 j j1).2
      rw [a2] at j2
      exact Or.inr (bad 3 _ (by omega) (nB a a1 j2) (M_lineL h3 h4 g1 y2 h9 hnc0 (Or.inr (Or.inl ⟨j, by omega, v5, by rw [v6]; exact j3, rfl⟩))) rfl)
    · have hc := nA j2
      have c0 := cst_go (pr := pr) (w := 6) (k := 0) (by omega) (by omega) hff0 hs0 ⟨by omega, by omega⟩ e1 hc
      have hA1' : AT T n r1' (sC m1 (labC (M_cd m1) nc (M_value (M_rd m1)) (M_number (M_cd m1) 18))) pl' q' := hA1
      obtain ⟨q2, pl2, sort2, value2, k1, k2, k3⟩ := AT_adv hA1'
      obtain ⟨m2, hm2⟩ : ∃ m2, m2 = tM (sC m1 (labC (M_cd m1) nc (M_value (M_rd m1)) (M_number (M_cd m1) 18))) (NN q2) (NN pl2) sort2 value2 := ⟨_, rfl⟩
      rw [← hm2] at k1 k2
      have hA2 := k2 (pR r1' (upd (Rd_parts r1') 0 (NN V))) (TP_C y3) y6 y1
      obtain ⟨r2, hr2⟩ : ∃ r2, r2 = pR r1' (upd (Rd_parts r1') 0 (NN V)) := ⟨_, rfl⟩
      rw [← hr2] at hA2 c0
      have hfr2 : FR1 rd r2 := FR1_trans hfr1 (by rw [hr2]; exact ⟨rfl, rfl, rfl, rfl, rfl, rfl⟩)
      have hwa2 : Rd_wantedPlaces r2 = Rd_wantedPlaces rd := by rw [hr2]; exact hwa1
      have htd2 : Rd_toldData r2 = Rd_toldData rd := by rw [hr2]; exact htd1
      have hpa2 : Rd_parts r2 0 = NN V := by
        rw [hr2]
        show upd (Rd_parts r1') 0 (NN V) 0 = NN V
        exact upd_at rfl
      have hcd2 : M_cd m2 = labC (M_cd m) nc (NN V) (NN sz) := by
        rw [hm2]
        show labC (M_cd m1) nc (M_value (M_rd m1)) (M_number (M_cd m1) 18) = _
        rw [v6, hcd1, d2]
      have hhd2 : M_hasData (M_rd m2) = M_hasData (M_rd m) := by rw [hm2]; exact hhd1
      have hfm2 : FM1 m m2 := FM1_trans hfm (by rw [hm2]; exact ⟨rfl, rfl, rfl, rfl, rfl, rfl, rfl, rfl, rfl⟩)
      have c1 := cst_skip (pr := pr) (w := 6) (k := 1) (v := r2) (by omega) (by omega) ((congrFun hfr2.2.2.2.1 _).trans (hsd 19 (by omega)))
      have c2 := cst_skip (pr := pr) (w := 6) (k := 2) (v := r2) (by omega) (by omega) ((congrFun hfr2.2.2.2.1 _).trans (hsd 20 (by omega)))
      rw [c0, bd_some, c1, bd_some, c2, bd_some] at hC0
      have hM := M_lineL (m3 := m2) h3 h4 g1 y2 h9 hnc0 (Or.inl ⟨v5, by rw [v6]; exact j3, k1⟩)
      obtain ⟨f1, f2, f3, f4, f5, f6⟩ := id hfr2
      obtain ⟨m1', m2', m3', m4', m5', m6', m7', m8', m9'⟩ := id hfm2
      refine good_end hC0 hM hA2 (by omega) ⟨⟨f1, f2, f3, f4, f5⟩, ⟨m1', m2', m3', m4', m5', m6', m7'⟩, ?_⟩ (fun v mm b1 b2 b3 b4 b5 b6 b7 => ?_)
      · rw [hcd2]
        exact ⟨fun k hk => upd_ne (by omega), fun _ _ => ⟨rfl, rfl, rfl, rfl, rfl⟩, fun k hk => ⟨upd_ne (by omega), upd_ne (by omega)⟩, fun a ha => rfl⟩
      · have z0 : Rd_parts v 0 = NN V := by rw [b2]; exact hpa2
        have hT := C_takeName (v := v) (pr := pL pr (Pg_lines pr + NN 1)) d4a hnc0
        refine ⟨_, _, hT, rfl, rfl, rfl, rfl, rfl, rfl, rfl, ?_, rfl⟩
        have e1 : M_cd (lM mm) = labC (M_cd m) nc (NN V) (NN sz) := b6.trans hcd2
        have e2 : M_isTold (M_rd (lM mm)) = M_isTold (M_rd m) := (b5.2.2.2.2.2.2.2.2).trans m9'
        have e3 : M_hasData (M_rd (lM mm)) = M_hasData (M_rd m) := b7.trans hhd2
        have e4 : M_lines (M_rd (lM mm)) = M_lines (M_rd m) + NN 1 := by
          show M_lines (M_rd mm) + NN 1 = _
          rw [b5.2.2.2.2.2.2.2.1]
          exact congrArg (· + NN 1) m8'
        have e5 : Rd_toldRules v = Rd_toldRules rd := b1.2.2.2.2.2.trans f6
        have e6 : Rd_toldData v = Rd_toldData rd := b4.trans htd2
        have e7 : Rd_wantedPlaces v = Rd_wantedPlaces rd := b3.trans hwa2
        unfold DR
        rw [e1, e2, e3, e4, e5, e6, e7]
        refine ⟨⟨d1, ?_, d3⟩, ⟨rfl, ?_, by omega⟩, ?_, fun k hk => ?_, d7, fun k hk => ?_, d9, d10, d11, d12, d13, d14⟩
        · show upd (M_number (M_cd m)) 19 (NN (nc + 1)) 18 = _
          rw [upd_ne (by omega)]; exact d2
        · show upd (M_number (M_cd m)) 19 (NN (nc + 1)) 19 = _
          exact upd_at rfl
        · show Pg_lines pr + NN 1 = _; rw [d5]
        · obtain ⟨r, y1, y2, y3⟩ := d6 k hk
          refine ⟨r, y1, y2, ?_⟩
          show upd (M_number (M_cd m)) 19 (NN (nc + 1)) (10 + k) = _
          rw [upd_ne (by omega)]; exact y3
        · by_cases g : k = nc
          · subst g
            refine ⟨?_, sz, d3, ?_, upd_at rfl⟩
            · show upd (Pg_names pr) k (Rd_parts v 0) k = upd (M_labelName (M_cd m)) (140 + k) (NN V) (140 + k)
              rw [upd_at rfl, upd_at rfl, z0]
            · show upd (Pg_namedPlaces pr) k (Pg_size pr) k = _
              rw [upd_at rfl, d1]
          · obtain ⟨u1, a, u2, u3, u4⟩ := d8 k (by omega)
            refine ⟨?_, a, u2, ?_, ?_⟩
            · show upd (Pg_names pr) nc (Rd_parts v 0) k = upd (M_labelName (M_cd m)) (140 + nc) (NN V) (140 + k)
              rw [upd_ne g, upd_ne (by omega)]; exact u1
            · show upd (Pg_namedPlaces pr) nc (Pg_size pr) k = _
              rw [upd_ne g]; exact u3
            · show upd (M_labelAt (M_cd m)) (140 + nc) (NN sz) (140 + k) = _
              rw [upd_ne (by omega)]; exact u4
  · exact Or.inr (bad 1 _ (by omega) (C_notName hwd1 (Or.inl rfl) (NN 0) hb2) (M_lineL h3 h4 g1 y2 h9 hnc0 (Or.inr (Or.inr ⟨s, s1, s2, s3, rfl⟩))) rfl)
