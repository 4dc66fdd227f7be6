/-! a TEXT: its beginning, and where it goes -/
theorem C_pgclear (v : T_Pg) : ∃ C D, f_Pg_clear v = some (C, (Pg_first v), (Pg_second v), (Pg_third v), upd (upd (upd (upd (upd (upd (upd (upd (Pg_rules v) 0 (NN 8)) 1 (NN 1)) 2 (NN 4)) 3 (NN 4)) 4 (NN 4)) 5 (NN 4)) 6 (NN 3)) 7 (NN 0), D, (Pg_names v), (Pg_namedPlaces v), NN 0, NN 0, NN 0) ∧ (∀ k, k < 64 → C k = NN 0) ∧ (∀ a, a < 32 → D a = NN 0) := by
  have k2 : ∀ k : (Nat → Int32) → Option T_Pg, f_Pg_clear_L2 k LF (NN 0) (Pg_code v) = k (fun j => if j < 64 then NN 0 else Pg_code v j) := by
    intro k
    obtain ⟨s', e, h⟩ := loop_from (f_Pg_clear_L2 k) k (fun x s => ∀ j, s j = if j < x then NN 0 else Pg_code v j) 0 64 (n := LF) (s := Pg_code v)
      (by
        intro n x s _ hx hI
        refine ⟨upd s x (NN 0), ?_, ?_⟩
        · simp only [f_Pg_clear_L2]
          simp (disch := omega) only [nm, bd_some, bd2_some, bd3_some, n_lit, n_add, n_mul, n_sub, n_tn, n_ltT, n_ltF, n_leT, n_leF, n_eqT, n_eqF, n_div, n_ixT, n_ixF, n_not, n_md, n_dec, n_and1, n_and3, n_and7, n_and15, n_and31, n_and63, Nat.mod_eq_of_lt, Nat.zero_add, Nat.add_zero, Nat.zero_mul, Nat.sub_zero, not_false_eq_true, not_true_eq_false, if_pos, if_neg, false_or, or_false, not_false_eq_true, Nat.not_le, Nat.not_lt, if_true, if_false, Nat.zero_add, Nat.add_zero, Nat.zero_mul, Nat.sub_zero, upd_at, upd_ne]
        · intro j
          by_cases q : j = x
          · rw [upd_at q, if_pos (by omega)]
          · rw [upd_ne q, hI j]
            have : j < x + 1 ↔ j < x := by omega
            simp only [this])
      (fun n s _ => by
        simp only [f_Pg_clear_L2]
        simp (disch := omega) only [nm, bd_some, bd2_some, bd3_some, n_lit, n_add, n_mul, n_sub, n_tn, n_ltT, n_ltF, n_leT, n_leF, n_eqT, n_eqF, n_div, n_ixT, n_ixF, n_not, n_md, n_dec, n_and1, n_and3, n_and7, n_and15, n_and31, n_and63, Nat.mod_eq_of_lt, Nat.zero_add, Nat.add_zero, Nat.zero_mul, Nat.sub_zero, not_false_eq_true, not_true_eq_false, if_pos, if_neg, false_or, or_false, not_false_eq_true, Nat.not_le, Nat.not_lt, if_true, if_false, Nat.zero_add, Nat.add_zero, Nat.zero_mul, Nat.sub_zero, upd_at, upd_ne]) (by omega) (lf_big (by omega)) (fun j => by rw [if_neg (by omega)])
    rw [e]; exact congrArg k (funext h)
  have k23 : ∀ k : (Nat → Int32) → Option T_Pg, f_Pg_clear_L23 k LF (NN 0) (Pg_data v) = k (fun j => if j < 32 then NN 0 else Pg_data v j) := by
    intro k
    obtain ⟨s', e, h⟩ := loop_from (f_Pg_clear_L23 k) k (fun x s => ∀ j, s j = if j < x then NN 0 else Pg_data v j) 0 32 (n := LF) (s := Pg_data v)
      (by
        intro n x s _ hx hI
        refine ⟨upd s x (NN 0), ?_, ?_⟩
        · simp only [f_Pg_clear_L23]
          simp (disch := omega) only [nm, bd_some, bd2_some, bd3_some, n_lit, n_add, n_mul, n_sub, n_tn, n_ltT, n_ltF, n_leT, n_leF, n_eqT, n_eqF, n_div, n_ixT, n_ixF, n_not, n_md, n_dec, n_and1, n_and3, n_and7, n_and15, n_and31, n_and63, Nat.mod_eq_of_lt, Nat.zero_add, Nat.add_zero, Nat.zero_mul, Nat.sub_zero, not_false_eq_true, not_true_eq_false, if_pos, if_neg, false_or, or_false, not_false_eq_true, Nat.not_le, Nat.not_lt, if_true, if_false, Nat.zero_add, Nat.add_zero, Nat.zero_mul, Nat.sub_zero, upd_at, upd_ne]
        · intro j
          by_cases q : j = x
          · rw [upd_at q, if_pos (by omega)]
          · rw [upd_ne q, hI j]
            have : j < x + 1 ↔ j < x := by omega
            simp only [this])
      (fun n s _ => by
        simp only [f_Pg_clear_L23]
        simp (disch := omega) only [nm, bd_some, bd2_some, bd3_some, n_lit, n_add, n_mul, n_sub, n_tn, n_ltT, n_ltF, n_leT, n_leF, n_eqT, n_eqF, n_div, n_ixT, n_ixF, n_not, n_md, n_dec, n_and1, n_and3, n_and7, n_and15, n_and31, n_and63, Nat.mod_eq_of_lt, Nat.zero_add, Nat.add_zero, Nat.zero_mul, Nat.sub_zero, not_false_eq_true, not_true_eq_false, if_pos, if_neg, false_or, or_false, not_false_eq_true, Nat.not_le, Nat.not_lt, if_true, if_false, Nat.zero_add, Nat.add_zero, Nat.zero_mul, Nat.sub_zero, upd_at, upd_ne]) (by omega) (lf_big (by omega)) (fun j => by rw [if_neg (by omega)])
    rw [e]; exact congrArg k (funext h)
  refine ⟨fun j => if j < 64 then NN 0 else Pg_code v j, fun j => if j < 32 then NN 0 else Pg_data v j, ?_, fun k hk => if_pos hk, fun a ha => if_pos ha⟩
  unfold f_Pg_clear
  refine (k2 _).trans ?_
  refine (k23 _).trans ?_
  repeat first | (with_reducible refine s_nmj1 ?_) | (with_reducible refine s_nmj2 ?_) | ((with_reducible refine s_nm ?_); intro y_ hy_; (try simp (disch := omega) only [n_lit, n_add, n_mul, n_sub, n_tn, n_ltT, n_ltF, n_leT, n_leF, n_eqT, n_eqF, n_div, n_ixT, n_ixF, n_not, n_md, n_dec, n_and1, n_and3, n_and7, n_and15, n_and31, n_and63, Nat.mod_eq_of_lt, Nat.zero_add, Nat.add_zero, Nat.zero_mul, Nat.sub_zero, not_false_eq_true, not_true_eq_false, upd_at, upd_ne] at hy_); subst hy_) | ((with_reducible refine s_pos ?_ ?_); · simp (disch := omega) only [n_lit, n_add, n_mul, n_sub, n_tn, n_ltT, n_ltF, n_leT, n_leF, n_eqT, n_eqF, n_div, n_ixT, n_ixF, n_not, n_md, n_dec, n_and1, n_and3, n_and7, n_and15, n_and31, n_and63, Nat.mod_eq_of_lt, Nat.zero_add, Nat.add_zero, Nat.zero_mul, Nat.sub_zero, not_false_eq_true, not_true_eq_false, upd_at, upd_ne]) | ((with_reducible refine s_neg ?_ ?_); · simp (disch := omega) only [n_lit, n_add, n_mul, n_sub, n_tn, n_ltT, n_ltF, n_leT, n_leF, n_eqT, n_eqF, n_div, n_ixT, n_ixF, n_not, n_md, n_dec, n_and1, n_and3, n_and7, n_and15, n_and31, n_and63, Nat.mod_eq_of_lt, Nat.zero_add, Nat.add_zero, Nat.zero_mul, Nat.sub_zero, not_false_eq_true, not_true_eq_false, upd_at, upd_ne]) 
  rfl
def frN (N0 : Nat → Int32) : Nat → Int32 := upd (upd (upd (upd (upd (upd (upd (fun j => if 10 ≤ j ∧ j < 20 then NN 0 else N0 j) 10 (NN 8)) 11 (NN 1)) 12 (NN 4)) 13 (NN 4)) 14 (NN 4)) 15 (NN 4)) 16 (NN 3)
abbrev fM (v : T_M) (N ft fh D : Nat → Int32) : T_M := ((M_tp v), ((M_lines (M_rd v)), (M_size (M_rd v)), (M_at (M_rd v)), (M_place (M_rd v)), (M_sort (M_rd v)), (M_value (M_rd v)), (M_fault (M_rd v)), (M_faultPlace (M_rd v)), ft, fh), (M_lf v), (N, (M_codeSort (M_cd v)), (M_codeA (M_cd v)), (M_codeB (M_cd v)), (M_codeC (M_cd v)), (M_codeName (M_cd v)), (M_codePlace (M_cd v)), (M_codeTo (M_cd v)), (M_labelName (M_cd v)), (M_labelAt (M_cd v)), D), (M_rn v), (M_ex v), (M_im v), (M_al v), (M_thrown v))
theorem sN_of {V v : T_M} {N : Nat → Int32} (h : V = sC v (nC (M_cd v) N)) (k : Nat) (x : Int32) : sN V k x = sC v (nC (M_cd v) (upd N (10 + k) x)) := by rw [h]; rfl
theorem M_fresh1 (v : T_M) : ∃ ft fh D, f_M_freshText v = some (fM v (frN (M_number (M_cd v))) ft fh D) ∧ (∀ k, k < 5 → ft k = NN 0) ∧ (∀ a, a < 32 → fh a = NN 0) ∧ (∀ a, a < 32 → D (32 + a) = NN 0 ∧ D a = M_data (M_cd v) a) := by
  obtain ⟨N1, hN1⟩ : ∃ N1 : Nat → Int32, N1 = fun j => if 10 ≤ j ∧ j < 20 then NN 0 else M_number (M_cd v) j := ⟨_, rfl⟩
  have l2 : ∀ k : T_M → Option T_M, f_M_freshText_L2 k LF (NN 0) v = k (sC v (nC (M_cd v) N1)) := by
    intro k
    obtain ⟨s', e, N, h1, h2⟩ := loop_from (f_M_freshText_L2 k) k (fun x s => ∃ N, s = sC v (nC (M_cd v) N) ∧ ∀ j, N j = if 10 ≤ j ∧ j < 10 + x then NN 0 else M_number (M_cd v) j) 0 10 (n := LF) (s := v)
      (by
        intro n x s _ hx hI
        obtain ⟨N, rfl, hN⟩ := hI
        refine ⟨sC v (nC (M_cd v) (upd N (10 + x) (NN 0))), ?_, _, rfl, ?_⟩
        · rw [f_M_freshText_L2]
          have w := M_reads1 (m := sC v (nC (M_cd v) N)) (k := x) (by omega) (NN 0)
          have w' : f_M_reads (sC v (nC (M_cd v) N)) (NN x) (0 : Int32) = _ := w
          repeat first | (with_reducible refine s_nmj1 ?_) | (with_reducible refine s_nmj2 ?_) | ((with_reducible refine s_nm ?_); intro y_ hy_; (try simp (disch := omega) only [n_lit, n_add, n_mul, n_sub, n_tn, n_ltT, n_ltF, n_leT, n_leF, n_eqT, n_eqF, n_div, n_ixT, n_ixF, n_not, n_md, n_dec, n_and1, n_and3, n_and7, n_and15, n_and31, n_and63, Nat.mod_eq_of_lt, Nat.zero_add, Nat.add_zero, Nat.zero_mul, Nat.sub_zero, not_false_eq_true, not_true_eq_false, upd_at, upd_ne] at hy_); subst hy_) | ((with_reducible refine s_pos ?_ ?_); · simp (disch := omega) only [n_lit, n_add, n_mul, n_sub, n_tn, n_ltT, n_ltF, n_leT, n_leF, n_eqT, n_eqF, n_div, n_ixT, n_ixF, n_not, n_md, n_dec, n_and1, n_and3, n_and7, n_and15, n_and31, n_and63, Nat.mod_eq_of_lt, Nat.zero_add, Nat.add_zero, Nat.zero_mul, Nat.sub_zero, not_false_eq_true, not_true_eq_false, upd_at, upd_ne]) | ((with_reducible refine s_neg ?_ ?_); · simp (disch := omega) only [n_lit, n_add, n_mul, n_sub, n_tn, n_ltT, n_ltF, n_leT, n_leF, n_eqT, n_eqF, n_div, n_ixT, n_ixF, n_not, n_md, n_dec, n_and1, n_and3, n_and7, n_and15, n_and31, n_and63, Nat.mod_eq_of_lt, Nat.zero_add, Nat.add_zero, Nat.zero_mul, Nat.sub_zero, not_false_eq_true, not_true_eq_false, upd_at, upd_ne]) 
          refine s_bd w' ?_
          repeat first | (with_reducible refine s_nmj1 ?_) | (with_reducible refine s_nmj2 ?_) | ((with_reducible refine s_nm ?_); intro y_ hy_; (try simp (disch := omega) only [n_lit, n_add, n_mul, n_sub, n_tn, n_ltT, n_ltF, n_leT, n_leF, n_eqT, n_eqF, n_div, n_ixT, n_ixF, n_not, n_md, n_dec, n_and1, n_and3, n_and7, n_and15, n_and31, n_and63, Nat.mod_eq_of_lt, Nat.zero_add, Nat.add_zero, Nat.zero_mul, Nat.sub_zero, not_false_eq_true, not_true_eq_false, upd_at, upd_ne] at hy_); subst hy_) | ((with_reducible refine s_pos ?_ ?_); · simp (disch := omega) only [n_lit, n_add, n_mul, n_sub, n_tn, n_ltT, n_ltF, n_leT, n_leF, n_eqT, n_eqF, n_div, n_ixT, n_ixF, n_not, n_md, n_dec, n_and1, n_and3, n_and7, n_and15, n_and31, n_and63, Nat.mod_eq_of_lt, Nat.zero_add, Nat.add_zero, Nat.zero_mul, Nat.sub_zero, not_false_eq_true, not_true_eq_false, upd_at, upd_ne]) | ((with_reducible refine s_neg ?_ ?_); · simp (disch := omega) only [n_lit, n_add, n_mul, n_sub, n_tn, n_ltT, n_ltF, n_leT, n_leF, n_eqT, n_eqF, n_div, n_ixT, n_ixF, n_not, n_md, n_dec, n_and1, n_and3, n_and7, n_and15, n_and31, n_and63, Nat.mod_eq_of_lt, Nat.zero_add, Nat.add_zero, Nat.zero_mul, Nat.sub_zero, not_false_eq_true, not_true_eq_false, upd_at, upd_ne]) 
          rfl
        · intro j
          by_cases q : j = 10 + x
          · rw [upd_at q, if_pos (by omega)]
          · rw [upd_ne q, hN j]
            have : (10 ≤ j ∧ j < 10 + (x + 1)) ↔ (10 ≤ j ∧ j < 10 + x) := by omega
            simp only [this])
      (fun n s _ => by
        rw [f_M_freshText_L2]
        repeat first | (with_reducible refine s_nmj1 ?_) | (with_reducible refine s_nmj2 ?_) | ((with_reducible refine s_nm ?_); intro y_ hy_; (try simp (disch := omega) only [n_lit, n_add, n_mul, n_sub, n_tn, n_ltT, n_ltF, n_leT, n_leF, n_eqT, n_eqF, n_div, n_ixT, n_ixF, n_not, n_md, n_dec, n_and1, n_and3, n_and7, n_and15, n_and31, n_and63, Nat.mod_eq_of_lt, Nat.zero_add, Nat.add_zero, Nat.zero_mul, Nat.sub_zero, not_false_eq_true, not_true_eq_false, upd_at, upd_ne] at hy_); subst hy_) | ((with_reducible refine s_pos ?_ ?_); · simp (disch := omega) only [n_lit, n_add, n_mul, n_sub, n_tn, n_ltT, n_ltF, n_leT, n_leF, n_eqT, n_eqF, n_div, n_ixT, n_ixF, n_not, n_md, n_dec, n_and1, n_and3, n_and7, n_and15, n_and31, n_and63, Nat.mod_eq_of_lt, Nat.zero_add, Nat.add_zero, Nat.zero_mul, Nat.sub_zero, not_false_eq_true, not_true_eq_false, upd_at, upd_ne]) | ((with_reducible refine s_neg ?_ ?_); · simp (disch := omega) only [n_lit, n_add, n_mul, n_sub, n_tn, n_ltT, n_ltF, n_leT, n_leF, n_eqT, n_eqF, n_div, n_ixT, n_ixF, n_not, n_md, n_dec, n_and1, n_and3, n_and7, n_and15, n_and31, n_and63, Nat.mod_eq_of_lt, Nat.zero_add, Nat.add_zero, Nat.zero_mul, Nat.sub_zero, not_false_eq_true, not_true_eq_false, upd_at, upd_ne]) 
        rfl) (by omega) (lf_big (by omega)) ⟨M_number (M_cd v), by obtain ⟨a0, a1, a2, ⟨b0, b1, b2, b3, b4, b5, b6, b7, b8, b9, b10⟩, a4, a5, a6, a7, a8⟩ := v; rfl, fun j => by rw [if_neg (by omega)]⟩
    have : N = N1 := by rw [hN1]; exact funext fun j => (h2 j).trans rfl
    rw [e, h1, this]
  obtain ⟨V, hV⟩ : ∃ V, V = sN (sN (sN (sN (sN (sN (sN (sC v (nC (M_cd v) N1)) 0 (NN 8)) 1 (NN 1)) 2 (NN 4)) 3 (NN 4)) 4 (NN 4)) 5 (NN 4)) 6 (NN 3) := ⟨_, rfl⟩
  have hLF : ∃ q, LF = q + 4 := ⟨LF - 4, by have := lf_big (d := 10) (by decide); omega⟩
  obtain ⟨q, hq⟩ := hLF
  have l69 : ∃ ft, (∀ k : (Nat → Int32) → Option T_M, f_M_freshText_L69 k LF (NN 0) (M_isTold (M_rd V)) = k ft) ∧ ∀ k, k < 5 → ft k = NN 0 := by
    refine ⟨fun j => if j < 5 then NN 0 else M_isTold (M_rd V) j, fun k => ?_, fun k hk => if_pos hk⟩
    obtain ⟨s', e, h⟩ := loop_from (f_M_freshText_L69 k) k (fun x s => ∀ j, s j = if j < x then NN 0 else M_isTold (M_rd V) j) 0 5 (n := LF) (s := M_isTold (M_rd V))
      (by
        intro n x s _ hx hI
        refine ⟨upd s x (NN 0), ?_, ?_⟩
        · rw [f_M_freshText_L69]
          repeat first | (with_reducible refine s_nmj1 ?_) | (with_reducible refine s_nmj2 ?_) | ((with_reducible refine s_nm ?_); intro y_ hy_; (try simp (disch := omega) only [n_lit, n_add, n_mul, n_sub, n_tn, n_ltT, n_ltF, n_leT, n_leF, n_eqT, n_eqF, n_div, n_ixT, n_ixF, n_not, n_md, n_dec, n_and1, n_and3, n_and7, n_and15, n_and31, n_and63, Nat.mod_eq_of_lt, Nat.zero_add, Nat.add_zero, Nat.zero_mul, Nat.sub_zero, not_false_eq_true, not_true_eq_false, upd_at, upd_ne] at hy_); subst hy_) | ((with_reducible refine s_pos ?_ ?_); · simp (disch := omega) only [n_lit, n_add, n_mul, n_sub, n_tn, n_ltT, n_ltF, n_leT, n_leF, n_eqT, n_eqF, n_div, n_ixT, n_ixF, n_not, n_md, n_dec, n_and1, n_and3, n_and7, n_and15, n_and31, n_and63, Nat.mod_eq_of_lt, Nat.zero_add, Nat.add_zero, Nat.zero_mul, Nat.sub_zero, not_false_eq_true, not_true_eq_false, upd_at, upd_ne]) | ((with_reducible refine s_neg ?_ ?_); · simp (disch := omega) only [n_lit, n_add, n_mul, n_sub, n_tn, n_ltT, n_ltF, n_leT, n_leF, n_eqT, n_eqF, n_div, n_ixT, n_ixF, n_not, n_md, n_dec, n_and1, n_and3, n_and7, n_and15, n_and31, n_and63, Nat.mod_eq_of_lt, Nat.zero_add, Nat.add_zero, Nat.zero_mul, Nat.sub_zero, not_false_eq_true, not_true_eq_false, upd_at, upd_ne]) 
          rfl
        · intro j
          by_cases q : j = x
          · rw [upd_at q, if_pos (by omega)]
          · rw [upd_ne q, hI j]
            have : j < x + 1 ↔ j < x := by omega
            simp only [this])
      (fun n s _ => by
        simp only [f_M_freshText_L69]
        simp (disch := omega) only [nm, bd_some, bd2_some, bd3_some, n_lit, n_add, n_mul, n_sub, n_tn, n_ltT, n_ltF, n_leT, n_leF, n_eqT, n_eqF, n_div, n_ixT, n_ixF, n_not, n_md, n_dec, n_and1, n_and3, n_and7, n_and15, n_and31, n_and63, Nat.mod_eq_of_lt, Nat.zero_add, Nat.add_zero, Nat.zero_mul, Nat.sub_zero, not_false_eq_true, not_true_eq_false, if_pos, if_neg, false_or, or_false, not_false_eq_true, Nat.not_le, Nat.not_lt, if_true, if_false, Nat.zero_add, Nat.add_zero, Nat.zero_mul, Nat.sub_zero, upd_at, upd_ne]) (by omega) (lf_big (by omega)) (fun j => by rw [if_neg (by omega)])
    rw [e]; exact congrArg k (funext h)
  have l89 : ∃ fh D, (∀ k : (Nat → Int32) → (Nat → Int32) → Option T_M, f_M_freshText_L89 k LF (NN 0) (M_data (M_cd V)) (M_hasData (M_rd V)) = k D fh) ∧ (∀ a, a < 32 → fh a = NN 0) ∧ (∀ a, a < 32 → D (32 + a) = NN 0 ∧ D a = M_data (M_cd V) a) := by
    refine ⟨fun j => if j < 32 then NN 0 else M_hasData (M_rd V) j, fun j => if 32 ≤ j ∧ j < 32 + 32 then NN 0 else M_data (M_cd V) j, fun k => ?_, fun k hk => if_pos hk, fun a ha => ⟨if_pos (by omega), if_neg (by omega)⟩⟩
    obtain ⟨s', e, h1, h2⟩ := loop_from (fun n i (s : (Nat → Int32) × (Nat → Int32)) => f_M_freshText_L89 k n i s.1 s.2) (fun s => k s.1 s.2) (fun x s => (∀ j, s.1 j = if 32 ≤ j ∧ j < 32 + x then NN 0 else M_data (M_cd V) j) ∧ ∀ j, s.2 j = if j < x then NN 0 else M_hasData (M_rd V) j) 0 32 (n := LF) (s := (M_data (M_cd V), M_hasData (M_rd V)))
      (by
        intro n x s _ hx hI
        refine ⟨(upd s.1 (32 + x) (NN 0), upd s.2 x (NN 0)), ?_, ?_, ?_⟩
        · simp only [f_M_freshText_L89]
          repeat first | (with_reducible refine s_nmj1 ?_) | (with_reducible refine s_nmj2 ?_) | ((with_reducible refine s_nm ?_); intro y_ hy_; (try simp (disch := omega) only [n_lit, n_add, n_mul, n_sub, n_tn, n_ltT, n_ltF, n_leT, n_leF, n_eqT, n_eqF, n_div, n_ixT, n_ixF, n_not, n_md, n_dec, n_and1, n_and3, n_and7, n_and15, n_and31, n_and63, Nat.mod_eq_of_lt, Nat.zero_add, Nat.add_zero, Nat.zero_mul, Nat.sub_zero, not_false_eq_true, not_true_eq_false, upd_at, upd_ne] at hy_); subst hy_) | ((with_reducible refine s_pos ?_ ?_); · simp (disch := omega) only [n_lit, n_add, n_mul, n_sub, n_tn, n_ltT, n_ltF, n_leT, n_leF, n_eqT, n_eqF, n_div, n_ixT, n_ixF, n_not, n_md, n_dec, n_and1, n_and3, n_and7, n_and15, n_and31, n_and63, Nat.mod_eq_of_lt, Nat.zero_add, Nat.add_zero, Nat.zero_mul, Nat.sub_zero, not_false_eq_true, not_true_eq_false, upd_at, upd_ne]) | ((with_reducible refine s_neg ?_ ?_); · simp (disch := omega) only [n_lit, n_add, n_mul, n_sub, n_tn, n_ltT, n_ltF, n_leT, n_leF, n_eqT, n_eqF, n_div, n_ixT, n_ixF, n_not, n_md, n_dec, n_and1, n_and3, n_and7, n_and15, n_and31, n_and63, Nat.mod_eq_of_lt, Nat.zero_add, Nat.add_zero, Nat.zero_mul, Nat.sub_zero, not_false_eq_true, not_true_eq_false, upd_at, upd_ne]) 
          rfl
        · intro j
          show upd s.1 (32 + x) (NN 0) j = _
          by_cases q : j = 32 + x
          · rw [upd_at q, if_pos (by omega)]
          · rw [upd_ne q, hI.1 j]
            have : (32 ≤ j ∧ j < 32 + (x + 1)) ↔ (32 ≤ j ∧ j < 32 + x) := by omega
            simp only [this]
        · intro j
          show upd s.2 x (NN 0) j = _
          by_cases q : j = x
          · rw [upd_at q, if_pos (by omega)]
          · rw [upd_ne q, hI.2 j]
            have : j < x + 1 ↔ j < x := by omega
            simp only [this])
      (fun n s _ => by
        simp only [f_M_freshText_L89]
        simp (disch := omega) only [nm, bd_some, bd2_some, bd3_some, n_lit, n_add, n_mul, n_sub, n_tn, n_ltT, n_ltF, n_leT, n_leF, n_eqT, n_eqF, n_div, n_ixT, n_ixF, n_not, n_md, n_dec, n_and1, n_and3, n_and7, n_and15, n_and31, n_and63, Nat.mod_eq_of_lt, Nat.zero_add, Nat.add_zero, Nat.zero_mul, Nat.sub_zero, not_false_eq_true, not_true_eq_false, if_pos, if_neg, false_or, or_false, not_false_eq_true, Nat.not_le, Nat.not_lt, if_true, if_false, Nat.zero_add, Nat.add_zero, Nat.zero_mul, Nat.sub_zero, upd_at, upd_ne]) (by omega) (lf_big (by omega)) ⟨fun j => by rw [if_neg (by omega)], fun j => by rw [if_neg (by omega)]⟩
    rw [e, show s'.1 = _ from funext h1, show s'.2 = _ from funext h2]
  obtain ⟨ft, t1, t2⟩ := l69
  obtain ⟨fh, D, u1, u2, u3⟩ := l89
  have hdV : M_data (M_cd V) = M_data (M_cd v) := by rw [hV]; rfl
  rw [hdV] at u3
  refine ⟨ft, fh, D, ?_, t2, u2, u3⟩
  unfold f_M_freshText
  refine (l2 _).trans ?_
  refine s_bd (M_reads1 (k := 0) (by decide) (NN 8)) ?_
  refine s_bd (M_reads1 (k := 1) (by decide) (NN 1)) ?_
  refine s_bd (M_reads1 (k := 2) (by decide) (NN 4)) ?_
  have L41 : ∀ (k : T_M → Option T_M) (u : T_M), f_M_freshText_L41 k LF (NN 0) u = k (sN (sN (sN u 3 (NN 4)) 4 (NN 4)) 5 (NN 4)) := by
    intro k u
    have w0 : f_M_reads u ((3 : Int32) + NN 0) (4 : Int32) = some (sN u 3 (NN 4)) := M_reads1 (m := u) (k := 3) (by decide) (NN 4)
    have w1 : f_M_reads (sN u 3 (NN 4)) ((3 : Int32) + NN 1) (4 : Int32) = some (sN (sN u 3 (NN 4)) 4 (NN 4)) := M_reads1 (m := sN u 3 (NN 4)) (k := 4) (by decide) (NN 4)
    have w2 : f_M_reads (sN (sN u 3 (NN 4)) 4 (NN 4)) ((3 : Int32) + NN 2) (4 : Int32) = some (sN (sN (sN u 3 (NN 4)) 4 (NN 4)) 5 (NN 4)) := M_reads1 (m := sN (sN u 3 (NN 4)) 4 (NN 4)) (k := 5) (by decide) (NN 4)
    rw [hq, f_M_freshText_L41]
    repeat first | (with_reducible refine s_nmj1 ?_) | (with_reducible refine s_nmj2 ?_) | ((with_reducible refine s_nm ?_); intro y_ hy_; (try simp (disch := omega) only [n_lit, n_add, n_mul, n_sub, n_tn, n_ltT, n_ltF, n_leT, n_leF, n_eqT, n_eqF, n_div, n_ixT, n_ixF, n_not, n_md, n_dec, n_and1, n_and3, n_and7, n_and15, n_and31, n_and63, Nat.mod_eq_of_lt, Nat.zero_add, Nat.add_zero, Nat.zero_mul, Nat.sub_zero, not_false_eq_true, not_true_eq_false, upd_at, upd_ne] at hy_); subst hy_) | ((with_reducible refine s_pos ?_ ?_); · simp (disch := omega) only [n_lit, n_add, n_mul, n_sub, n_tn, n_ltT, n_ltF, n_leT, n_leF, n_eqT, n_eqF, n_div, n_ixT, n_ixF, n_not, n_md, n_dec, n_and1, n_and3, n_and7, n_and15, n_and31, n_and63, Nat.mod_eq_of_lt, Nat.zero_add, Nat.add_zero, Nat.zero_mul, Nat.sub_zero, not_false_eq_true, not_true_eq_false, upd_at, upd_ne]) | ((with_reducible refine s_neg ?_ ?_); · simp (disch := omega) only [n_lit, n_add, n_mul, n_sub, n_tn, n_ltT, n_ltF, n_leT, n_leF, n_eqT, n_eqF, n_div, n_ixT, n_ixF, n_not, n_md, n_dec, n_and1, n_and3, n_and7, n_and15, n_and31, n_and63, Nat.mod_eq_of_lt, Nat.zero_add, Nat.add_zero, Nat.zero_mul, Nat.sub_zero, not_false_eq_true, not_true_eq_false, upd_at, upd_ne]) 
    refine s_bd w0 ?_
    repeat first | (with_reducible refine s_nmj1 ?_) | (with_reducible refine s_nmj2 ?_) | ((with_reducible refine s_nm ?_); intro y_ hy_; (try simp (disch := omega) only [n_lit, n_add, n_mul, n_sub, n_tn, n_ltT, n_ltF, n_leT, n_leF, n_eqT, n_eqF, n_div, n_ixT, n_ixF, n_not, n_md, n_dec, n_and1, n_and3, n_and7, n_and15, n_and31, n_and63, Nat.mod_eq_of_lt, Nat.zero_add, Nat.add_zero, Nat.zero_mul, Nat.sub_zero, not_false_eq_true, not_true_eq_false, upd_at, upd_ne] at hy_); subst hy_) | ((with_reducible refine s_pos ?_ ?_); · simp (disch := omega) only [n_lit, n_add, n_mul, n_sub, n_tn, n_ltT, n_ltF, n_leT, n_leF, n_eqT, n_eqF, n_div, n_ixT, n_ixF, n_not, n_md, n_dec, n_and1, n_and3, n_and7, n_and15, n_and31, n_and63, Nat.mod_eq_of_lt, Nat.zero_add, Nat.add_zero, Nat.zero_mul, Nat.sub_zero, not_false_eq_true, not_true_eq_false, upd_at, upd_ne]) | ((with_reducible refine s_neg ?_ ?_); · simp (disch := omega) only [n_lit, n_add, n_mul, n_sub, n_tn, n_ltT, n_ltF, n_leT, n_leF, n_eqT, n_eqF, n_div, n_ixT, n_ixF, n_not, n_md, n_dec, n_and1, n_and3, n_and7, n_and15, n_and31, n_and63, Nat.mod_eq_of_lt, Nat.zero_add, Nat.add_zero, Nat.zero_mul, Nat.sub_zero, not_false_eq_true, not_true_eq_false, upd_at, upd_ne]) 
    rw [f_M_freshText_L41]
    repeat first | (with_reducible refine s_nmj1 ?_) | (with_reducible refine s_nmj2 ?_) | ((with_reducible refine s_nm ?_); intro y_ hy_; (try simp (disch := omega) only [n_lit, n_add, n_mul, n_sub, n_tn, n_ltT, n_ltF, n_leT, n_leF, n_eqT, n_eqF, n_div, n_ixT, n_ixF, n_not, n_md, n_dec, n_and1, n_and3, n_and7, n_and15, n_and31, n_and63, Nat.mod_eq_of_lt, Nat.zero_add, Nat.add_zero, Nat.zero_mul, Nat.sub_zero, not_false_eq_true, not_true_eq_false, upd_at, upd_ne] at hy_); subst hy_) | ((with_reducible refine s_pos ?_ ?_); · simp (disch := omega) only [n_lit, n_add, n_mul, n_sub, n_tn, n_ltT, n_ltF, n_leT, n_leF, n_eqT, n_eqF, n_div, n_ixT, n_ixF, n_not, n_md, n_dec, n_and1, n_and3, n_and7, n_and15, n_and31, n_and63, Nat.mod_eq_of_lt, Nat.zero_add, Nat.add_zero, Nat.zero_mul, Nat.sub_zero, not_false_eq_true, not_true_eq_false, upd_at, upd_ne]) | ((with_reducible refine s_neg ?_ ?_); · simp (disch := omega) only [n_lit, n_add, n_mul, n_sub, n_tn, n_ltT, n_ltF, n_leT, n_leF, n_eqT, n_eqF, n_div, n_ixT, n_ixF, n_not, n_md, n_dec, n_and1, n_and3, n_and7, n_and15, n_and31, n_and63, Nat.mod_eq_of_lt, Nat.zero_add, Nat.add_zero, Nat.zero_mul, Nat.sub_zero, not_false_eq_true, not_true_eq_false, upd_at, upd_ne]) 
    refine s_bd w1 ?_
    repeat first | (with_reducible refine s_nmj1 ?_) | (with_reducible refine s_nmj2 ?_) | ((with_reducible refine s_nm ?_); intro y_ hy_; (try simp (disch := omega) only [n_lit, n_add, n_mul, n_sub, n_tn, n_ltT, n_ltF, n_leT, n_leF, n_eqT, n_eqF, n_div, n_ixT, n_ixF, n_not, n_md, n_dec, n_and1, n_and3, n_and7, n_and15, n_and31, n_and63, Nat.mod_eq_of_lt, Nat.zero_add, Nat.add_zero, Nat.zero_mul, Nat.sub_zero, not_false_eq_true, not_true_eq_false, upd_at, upd_ne] at hy_); subst hy_) | ((with_reducible refine s_pos ?_ ?_); · simp (disch := omega) only [n_lit, n_add, n_mul, n_sub, n_tn, n_ltT, n_ltF, n_leT, n_leF, n_eqT, n_eqF, n_div, n_ixT, n_ixF, n_not, n_md, n_dec, n_and1, n_and3, n_and7, n_and15, n_and31, n_and63, Nat.mod_eq_of_lt, Nat.zero_add, Nat.add_zero, Nat.zero_mul, Nat.sub_zero, not_false_eq_true, not_true_eq_false, upd_at, upd_ne]) | ((with_reducible refine s_neg ?_ ?_); · simp (disch := omega) only [n_lit, n_add, n_mul, n_sub, n_tn, n_ltT, n_ltF, n_leT, n_leF, n_eqT, n_eqF, n_div, n_ixT, n_ixF, n_not, n_md, n_dec, n_and1, n_and3, n_and7, n_and15, n_and31, n_and63, Nat.mod_eq_of_lt, Nat.zero_add, Nat.add_zero, Nat.zero_mul, Nat.sub_zero, not_false_eq_true, not_true_eq_false, upd_at, upd_ne]) 
    rw [f_M_freshText_L41]
    repeat first | (with_reducible refine s_nmj1 ?_) | (with_reducible refine s_nmj2 ?_) | ((with_reducible refine s_nm ?_); intro y_ hy_; (try simp (disch := omega) only [n_lit, n_add, n_mul, n_sub, n_tn, n_ltT, n_ltF, n_leT, n_leF, n_eqT, n_eqF, n_div, n_ixT, n_ixF, n_not, n_md, n_dec, n_and1, n_and3, n_and7, n_and15, n_and31, n_and63, Nat.mod_eq_of_lt, Nat.zero_add, Nat.add_zero, Nat.zero_mul, Nat.sub_zero, not_false_eq_true, not_true_eq_false, upd_at, upd_ne] at hy_); subst hy_) | ((with_reducible refine s_pos ?_ ?_); · simp (disch := omega) only [n_lit, n_add, n_mul, n_sub, n_tn, n_ltT, n_ltF, n_leT, n_leF, n_eqT, n_eqF, n_div, n_ixT, n_ixF, n_not, n_md, n_dec, n_and1, n_and3, n_and7, n_and15, n_and31, n_and63, Nat.mod_eq_of_lt, Nat.zero_add, Nat.add_zero, Nat.zero_mul, Nat.sub_zero, not_false_eq_true, not_true_eq_false, upd_at, upd_ne]) | ((with_reducible refine s_neg ?_ ?_); · simp (disch := omega) only [n_lit, n_add, n_mul, n_sub, n_tn, n_ltT, n_ltF, n_leT, n_leF, n_eqT, n_eqF, n_div, n_ixT, n_ixF, n_not, n_md, n_dec, n_and1, n_and3, n_and7, n_and15, n_and31, n_and63, Nat.mod_eq_of_lt, Nat.zero_add, Nat.add_zero, Nat.zero_mul, Nat.sub_zero, not_false_eq_true, not_true_eq_false, upd_at, upd_ne]) 
    refine s_bd w2 ?_
    repeat first | (with_reducible refine s_nmj1 ?_) | (with_reducible refine s_nmj2 ?_) | ((with_reducible refine s_nm ?_); intro y_ hy_; (try simp (disch := omega) only [n_lit, n_add, n_mul, n_sub, n_tn, n_ltT, n_ltF, n_leT, n_leF, n_eqT, n_eqF, n_div, n_ixT, n_ixF, n_not, n_md, n_dec, n_and1, n_and3, n_and7, n_and15, n_and31, n_and63, Nat.mod_eq_of_lt, Nat.zero_add, Nat.add_zero, Nat.zero_mul, Nat.sub_zero, not_false_eq_true, not_true_eq_false, upd_at, upd_ne] at hy_); subst hy_) | ((with_reducible refine s_pos ?_ ?_); · simp (disch := omega) only [n_lit, n_add, n_mul, n_sub, n_tn, n_ltT, n_ltF, n_leT, n_leF, n_eqT, n_eqF, n_div, n_ixT, n_ixF, n_not, n_md, n_dec, n_and1, n_and3, n_and7, n_and15, n_and31, n_and63, Nat.mod_eq_of_lt, Nat.zero_add, Nat.add_zero, Nat.zero_mul, Nat.sub_zero, not_false_eq_true, not_true_eq_false, upd_at, upd_ne]) | ((with_reducible refine s_neg ?_ ?_); · simp (disch := omega) only [n_lit, n_add, n_mul, n_sub, n_tn, n_ltT, n_ltF, n_leT, n_leF, n_eqT, n_eqF, n_div, n_ixT, n_ixF, n_not, n_md, n_dec, n_and1, n_and3, n_and7, n_and15, n_and31, n_and63, Nat.mod_eq_of_lt, Nat.zero_add, Nat.add_zero, Nat.zero_mul, Nat.sub_zero, not_false_eq_true, not_true_eq_false, upd_at, upd_ne]) 
    rw [f_M_freshText_L41]
    repeat first | (with_reducible refine s_nmj1 ?_) | (with_reducible refine s_nmj2 ?_) | ((with_reducible refine s_nm ?_); intro y_ hy_; (try simp (disch := omega) only [n_lit, n_add, n_mul, n_sub, n_tn, n_ltT, n_ltF, n_leT, n_leF, n_eqT, n_eqF, n_div, n_ixT, n_ixF, n_not, n_md, n_dec, n_and1, n_and3, n_and7, n_and15, n_and31, n_and63, Nat.mod_eq_of_lt, Nat.zero_add, Nat.add_zero, Nat.zero_mul, Nat.sub_zero, not_false_eq_true, not_true_eq_false, upd_at, upd_ne] at hy_); subst hy_) | ((with_reducible refine s_pos ?_ ?_); · simp (disch := omega) only [n_lit, n_add, n_mul, n_sub, n_tn, n_ltT, n_ltF, n_leT, n_leF, n_eqT, n_eqF, n_div, n_ixT, n_ixF, n_not, n_md, n_dec, n_and1, n_and3, n_and7, n_and15, n_and31, n_and63, Nat.mod_eq_of_lt, Nat.zero_add, Nat.add_zero, Nat.zero_mul, Nat.sub_zero, not_false_eq_true, not_true_eq_false, upd_at, upd_ne]) | ((with_reducible refine s_neg ?_ ?_); · simp (disch := omega) only [n_lit, n_add, n_mul, n_sub, n_tn, n_ltT, n_ltF, n_leT, n_leF, n_eqT, n_eqF, n_div, n_ixT, n_ixF, n_not, n_md, n_dec, n_and1, n_and3, n_and7, n_and15, n_and31, n_and63, Nat.mod_eq_of_lt, Nat.zero_add, Nat.add_zero, Nat.zero_mul, Nat.sub_zero, not_false_eq_true, not_true_eq_false, upd_at, upd_ne]) 
    rfl
  refine (L41 _ _).trans ?_
  refine s_bd (M_reads1 (k := 6) (by decide) (NN 3)) ?_
  rw [← hV]
  refine (t1 _).trans ?_
  refine (u1 _).trans ?_
  have hN2 : ∃ N2, V = sC v (nC (M_cd v) N2) ∧ N2 = frN (M_number (M_cd v)) := by
    have t := hV.trans (sN_of (sN_of (sN_of (sN_of (sN_of (sN_of (sN_of rfl 0 (NN 8)) 1 (NN 1)) 2 (NN 4)) 3 (NN 4)) 4 (NN 4)) 5 (NN 4)) 6 (NN 3))
    refine ⟨_, t, ?_⟩
    rw [frN, ← hN1]
  obtain ⟨N2, e2, e3⟩ := hN2
  rw [← e3, e2]
  rfl
