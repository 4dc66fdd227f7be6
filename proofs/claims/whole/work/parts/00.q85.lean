/-! LINES: queues -/
theorem M_lineQ {m v44 a0 a1 a2 : T_M} {r0 r1 r2 : Int32} (h0 : M_sort (M_rd m) = NN 0) (h1 : M_value (M_rd m) = NN 2) (eO : f_M_once m (NN 2) = some v44) (e0 : f_M_numeral v44 (NN 1) (NN 8) = some (r0, a0)) (e1 : f_M_numeral (sN a0 3 r0) (NN 1) (NN 8) = some (r1, a1)) (e2 : f_M_numeral (sN a1 4 r1) (NN 1) (NN 8) = some (r2, a2)) : f_M_readLine m = ML (sN a2 5 r2) := by
  have hLF : ∃ q, LF = q + 4 := ⟨LF - 4, by have := lf_big (d := 10) (by decide); omega⟩
  obtain ⟨q, hq⟩ := hLF
  have eQ : f_M_readQueues m = some (sN a2 5 r2) := by
    have e0' : f_M_numeral v44 (1 : Int32) (8 : Int32) = some (r0, a0) := e0
    have e1' : f_M_numeral (sN a0 3 r0) (1 : Int32) (8 : Int32) = some (r1, a1) := e1
    have e2' : f_M_numeral (sN a1 4 r1) (1 : Int32) (8 : Int32) = some (r2, a2) := e2
    have w0 : f_M_reads a0 ((3 : Int32) + (0 : Int32)) r0 = some (sN a0 3 r0) := by
      rw [show (3 : Int32) + (0 : Int32) = NN 3 from rfl]; exact M_reads1 (by decide) _
    have w1 : f_M_reads a1 ((3 : Int32) + NN 1) r1 = some (sN a1 4 r1) := by
      rw [show (3 : Int32) + NN 1 = NN 4 from rfl]; exact M_reads1 (by decide) _
    have w2 : f_M_reads a2 ((3 : Int32) + NN 2) r2 = some (sN a2 5 r2) := by
      rw [show (3 : Int32) + NN 2 = NN 5 from rfl]; exact M_reads1 (by decide) _
    unfold f_M_readQueues
    refine s_bd eO ?_
    rw [hq, f_M_readQueues_L7]
    repeat first | (with_reducible refine s_nmj1 ?_) | (with_reducible refine s_nmj2 ?_) | ((with_reducible refine s_nm ?_); intro y_ hy_; (try simp (disch := omega) only [n_lit, n_add, n_mul, n_sub, n_tn, n_ltT, n_ltF, n_leT, n_leF, n_eqT, n_eqF, n_div, n_ixT, n_ixF, n_not, n_md, n_dec, n_and1, n_and3, n_and7, n_and15, n_and31, n_and63, Nat.mod_eq_of_lt, Nat.zero_add, Nat.add_zero, Nat.zero_mul, Nat.sub_zero, not_false_eq_true, not_true_eq_false, upd_at, upd_ne] at hy_); subst hy_) | ((with_reducible refine s_pos ?_ ?_); · simp (disch := omega) only [n_lit, n_add, n_mul, n_sub, n_tn, n_ltT, n_ltF, n_leT, n_leF, n_eqT, n_eqF, n_div, n_ixT, n_ixF, n_not, n_md, n_dec, n_and1, n_and3, n_and7, n_and15, n_and31, n_and63, Nat.mod_eq_of_lt, Nat.zero_add, Nat.add_zero, Nat.zero_mul, Nat.sub_zero, not_false_eq_true, not_true_eq_false, upd_at, upd_ne]) | ((with_reducible refine s_neg ?_ ?_); · simp (disch := omega) only [n_lit, n_add, n_mul, n_sub, n_tn, n_ltT, n_ltF, n_leT, n_leF, n_eqT, n_eqF, n_div, n_ixT, n_ixF, n_not, n_md, n_dec, n_and1, n_and3, n_and7, n_and15, n_and31, n_and63, Nat.mod_eq_of_lt, Nat.zero_add, Nat.add_zero, Nat.zero_mul, Nat.sub_zero, not_false_eq_true, not_true_eq_false, upd_at, upd_ne])  | (with_reducible refine s_bd2 e0' ?_) | (with_reducible refine s_bd w0 ?_)
    rw [f_M_readQueues_L7]
    repeat first | (with_reducible refine s_nmj1 ?_) | (with_reducible refine s_nmj2 ?_) | ((with_reducible refine s_nm ?_); intro y_ hy_; (try simp (disch := omega) only [n_lit, n_add, n_mul, n_sub, n_tn, n_ltT, n_ltF, n_leT, n_leF, n_eqT, n_eqF, n_div, n_ixT, n_ixF, n_not, n_md, n_dec, n_and1, n_and3, n_and7, n_and15, n_and31, n_and63, Nat.mod_eq_of_lt, Nat.zero_add, Nat.add_zero, Nat.zero_mul, Nat.sub_zero, not_false_eq_true, not_true_eq_false, upd_at, upd_ne] at hy_); subst hy_) | ((with_reducible refine s_pos ?_ ?_); · simp (disch := omega) only [n_lit, n_add, n_mul, n_sub, n_tn, n_ltT, n_ltF, n_leT, n_leF, n_eqT, n_eqF, n_div, n_ixT, n_ixF, n_not, n_md, n_dec, n_and1, n_and3, n_and7, n_and15, n_and31, n_and63, Nat.mod_eq_of_lt, Nat.zero_add, Nat.add_zero, Nat.zero_mul, Nat.sub_zero, not_false_eq_true, not_true_eq_false, upd_at, upd_ne]) | ((with_reducible refine s_neg ?_ ?_); · simp (disch := omega) only [n_lit, n_add, n_mul, n_sub, n_tn, n_ltT, n_ltF, n_leT, n_leF, n_eqT, n_eqF, n_div, n_ixT, n_ixF, n_not, n_md, n_dec, n_and1, n_and3, n_and7, n_and15, n_and31, n_and63, Nat.mod_eq_of_lt, Nat.zero_add, Nat.add_zero, Nat.zero_mul, Nat.sub_zero, not_false_eq_true, not_true_eq_false, upd_at, upd_ne])  | (with_reducible refine s_bd2 e1' ?_) | (with_reducible refine s_bd w1 ?_)
    rw [f_M_readQueues_L7]
    repeat first | (with_reducible refine s_nmj1 ?_) | (with_reducible refine s_nmj2 ?_) | ((with_reducible refine s_nm ?_); intro y_ hy_; (try simp (disch := omega) only [n_lit, n_add, n_mul, n_sub, n_tn, n_ltT, n_ltF, n_leT, n_leF, n_eqT, n_eqF, n_div, n_ixT, n_ixF, n_not, n_md, n_dec, n_and1, n_and3, n_and7, n_and15, n_and31, n_and63, Nat.mod_eq_of_lt, Nat.zero_add, Nat.add_zero, Nat.zero_mul, Nat.sub_zero, not_false_eq_true, not_true_eq_false, upd_at, upd_ne] at hy_); subst hy_) | ((with_reducible refine s_pos ?_ ?_); · simp (disch := omega) only [n_lit, n_add, n_mul, n_sub, n_tn, n_ltT, n_ltF, n_leT, n_leF, n_eqT, n_eqF, n_div, n_ixT, n_ixF, n_not, n_md, n_dec, n_and1, n_and3, n_and7, n_and15, n_and31, n_and63, Nat.mod_eq_of_lt, Nat.zero_add, Nat.add_zero, Nat.zero_mul, Nat.sub_zero, not_false_eq_true, not_true_eq_false, upd_at, upd_ne]) | ((with_reducible refine s_neg ?_ ?_); · simp (disch := omega) only [n_lit, n_add, n_mul, n_sub, n_tn, n_ltT, n_ltF, n_leT, n_leF, n_eqT, n_eqF, n_div, n_ixT, n_ixF, n_not, n_md, n_dec, n_and1, n_and3, n_and7, n_and15, n_and31, n_and63, Nat.mod_eq_of_lt, Nat.zero_add, Nat.add_zero, Nat.zero_mul, Nat.sub_zero, not_false_eq_true, not_true_eq_false, upd_at, upd_ne])  | (with_reducible refine s_bd2 e2' ?_) | (with_reducible refine s_bd w2 ?_)
    rw [f_M_readQueues_L7]
    repeat first | (with_reducible refine s_nmj1 ?_) | (with_reducible refine s_nmj2 ?_) | ((with_reducible refine s_nm ?_); intro y_ hy_; (try simp (disch := omega) only [n_lit, n_add, n_mul, n_sub, n_tn, n_ltT, n_ltF, n_leT, n_leF, n_eqT, n_eqF, n_div, n_ixT, n_ixF, n_not, n_md, n_dec, n_and1, n_and3, n_and7, n_and15, n_and31, n_and63, Nat.mod_eq_of_lt, Nat.zero_add, Nat.add_zero, Nat.zero_mul, Nat.sub_zero, not_false_eq_true, not_true_eq_false, upd_at, upd_ne] at hy_); subst hy_) | ((with_reducible refine s_pos ?_ ?_); · simp (disch := omega) only [n_lit, n_add, n_mul, n_sub, n_tn, n_ltT, n_ltF, n_leT, n_leF, n_eqT, n_eqF, n_div, n_ixT, n_ixF, n_not, n_md, n_dec, n_and1, n_and3, n_and7, n_and15, n_and31, n_and63, Nat.mod_eq_of_lt, Nat.zero_add, Nat.add_zero, Nat.zero_mul, Nat.sub_zero, not_false_eq_true, not_true_eq_false, upd_at, upd_ne]) | ((with_reducible refine s_neg ?_ ?_); · simp (disch := omega) only [n_lit, n_add, n_mul, n_sub, n_tn, n_ltT, n_ltF, n_leT, n_leF, n_eqT, n_eqF, n_div, n_ixT, n_ixF, n_not, n_md, n_dec, n_and1, n_and3, n_and7, n_and15, n_and31, n_and63, Nat.mod_eq_of_lt, Nat.zero_add, Nat.add_zero, Nat.zero_mul, Nat.sub_zero, not_false_eq_true, not_true_eq_false, upd_at, upd_ne]) 
    rfl
  unfold f_M_readLine
  repeat first | (with_reducible refine s_nmj1 ?_) | (with_reducible refine s_nmj2 ?_) | ((with_reducible refine s_nm ?_); intro y_ hy_; (try simp (disch := omega) only [n_lit, n_add, n_mul, n_sub, n_tn, n_ltT, n_ltF, n_leT, n_leF, n_eqT, n_eqF, n_div, n_ixT, n_ixF, n_not, n_md, n_dec, n_and1, n_and3, n_and7, n_and15, n_and31, n_and63, Nat.mod_eq_of_lt, Nat.zero_add, Nat.add_zero, Nat.zero_mul, Nat.sub_zero, not_false_eq_true, not_true_eq_false, upd_at, upd_ne, h0, h1] at hy_); subst hy_) | ((with_reducible refine s_pos ?_ ?_); · simp (disch := omega) only [n_lit, n_add, n_mul, n_sub, n_tn, n_ltT, n_ltF, n_leT, n_leF, n_eqT, n_eqF, n_div, n_ixT, n_ixF, n_not, n_md, n_dec, n_and1, n_and3, n_and7, n_and15, n_and31, n_and63, Nat.mod_eq_of_lt, Nat.zero_add, Nat.add_zero, Nat.zero_mul, Nat.sub_zero, not_false_eq_true, not_true_eq_false, upd_at, upd_ne, h0, h1]) | ((with_reducible refine s_neg ?_ ?_); · simp (disch := omega) only [n_lit, n_add, n_mul, n_sub, n_tn, n_ltT, n_ltF, n_leT, n_leF, n_eqT, n_eqF, n_div, n_ixT, n_ixF, n_not, n_md, n_dec, n_and1, n_and3, n_and7, n_and15, n_and31, n_and63, Nat.mod_eq_of_lt, Nat.zero_add, Nat.add_zero, Nat.zero_mul, Nat.sub_zero, not_false_eq_true, not_true_eq_false, upd_at, upd_ne, h0, h1])  | (with_reducible refine s_bd eQ ?_)
  rfl
theorem nC_nC (c : T_Mc) (A B : Nat → Int32) : nC (nC c A) B = nC c B := rfl
set_option maxHeartbeats 4000000 in
theorem line_queues {T : Nat → Nat} {n : Nat} {rd : T_Rd} {pr : T_Pg} {m : T_M} {pl q sz nc : Nat} (hA : AT T n rd m pl q) (hwd : WD rd) (hsd : SD rd) (hD : DR rd pr m sz nc) (h1 : Rd_token rd = NN 1) (h2 : Rd_value rd = NN (WP 2)) (h3 : M_sort (M_rd m) = NN 0) (h4 : M_value (M_rd m) = NN 2) : LOK T n rd pr m pl sz nc ∨ LBAD T n rd pr m := by
  have hPL : PLN 113 1 8 := Or.inr (Or.inr (Or.inl ⟨rfl, rfl, rfl⟩))
  obtain ⟨x1, x2, x3, x4, x5, x6, x7, x8, x9, x10⟩ := id hA
  have NB : ∀ a : T_M, ∀ f, f ≠ 0 ∧ f < 10 → M_fault (M_rd a) = NN f → f_M_numeral a (NN 1) (NN 8) = some (NN 1, a) := fun a f hf h => (M_nahB h hf _ _).2
  rcases hD.2.2.2.2.2.2.2.2.2.1 2 (by omega) with ht | ht
  · have hA2 : AT T n rd (oM m 2) pl q := hA
    obtain ⟨q', pl', sort', value', g1, g2, g3⟩ := AT_goOn hA2
    have eO := M_once0 (by omega : 2 < 5) ht g1
    have hA0 := g2 (pR rd (z3 (Rd_parts rd))) (TP_C x3) x6 x1
    have hb : tb (Rd_toldRules rd) 2 = NN 0 := by rw [hD.2.2.2.2.2.2.2.2.1 2 (by omega), if_pos (by omega), ht]
    have hC0 := C_head (pr := pr) hwd (by omega : 2 < 25) h1 h2 hb hD.1.1 hD.1.2.2 (Or.inl (by omega))
    rcases num_step hA0 pr (w := 2) (k := 0) (by omega) (by omega) (hsd 6 (by omega)) hPL with ⟨r0, a0, V0, pl0, q0, v0, v0', c0, n0, A0, lt0, le0, fr0, fm0, p0, wa0, td0, cd0, hd0⟩ | ⟨r0, a0, c0, n0, B0, fr0, fm0, cd0, hd0⟩
    · have hA1 : AH T n r0 (sN a0 3 (NN V0)) pl0 q0 := A0
      rcases num_step hA1 pr (w := 2) (k := 1) (by omega) (by omega) ((congrFun fr0.2.2.2.1 _).trans (hsd 7 (by omega))) hPL with ⟨r1, a1, V1, pl1, q1, v1, v1', c1, n1, A1, lt1, le1, fr1, fm1, p1, wa1, td1, cd1, hd1⟩ | ⟨r1, a1, c1, n1, B1, fr1, fm1, cd1, hd1⟩
      · have hA2 : AH T n r1 (sN a1 4 (NN V1)) pl1 q1 := A1
        have fr01 := FR1_trans fr0 fr1
        rcases num_step hA2 pr (w := 2) (k := 2) (by omega) (by omega) ((congrFun fr01.2.2.2.1 _).trans (hsd 8 (by omega))) hPL with ⟨r2, a2, V2, pl2, q2, v2, v2', c2, n2, A2, lt2, le2, fr2, fm2, p2, wa2, td2, cd2, hd2⟩ | ⟨r2, a2, c2, n2, B2, fr2, fm2, cd2, hd2⟩
        · rw [c0, bd_some, c1, bd_some, c2, bd_some] at hC0
          have hM := M_lineQ h3 h4 eO n0 n1 n2
          have hcd : M_cd (sN a2 5 (NN V2)) = nC (M_cd m) (upd (upd (upd (M_number (M_cd m)) 13 (NN V0)) 14 (NN V1)) 15 (NN V2)) := by
            show nC (M_cd a2) (upd (M_number (M_cd a2)) 15 (NN V2)) = _
            rw [cd2]
            show nC (M_cd a1) (upd (upd (M_number (M_cd a1)) 14 (NN V1)) 15 (NN V2)) = _
            rw [cd1]
            show nC (M_cd a0) (upd (upd (upd (M_number (M_cd a0)) 13 (NN V0)) 14 (NN V1)) 15 (NN V2)) = _
            rw [cd0]; rfl
          refine set_good (w := 2) (by omega) hD hsd hC0 hM A2 (by omega) (FR1_trans fr01 fr2) (wa2.trans (wa1.trans wa0)) (td2.trans (td1.trans td0)) (FM1_trans (FM1_trans fm0 fm1) fm2) (hd2.trans (hd1.trans hd0)) _ hcd (fun j hj => by rw [upd_ne (by omega), upd_ne (by omega), upd_ne (by omega)]) (fun k hk => ?_)
          have q0' : Rd_parts r2 0 = NN V0 := by rw [p2, upd_ne (by omega), p1, upd_ne (by omega), p0, upd_at rfl]
          have q1' : Rd_parts r2 1 = NN V1 := by rw [p2, upd_ne (by omega), p1, upd_at rfl]
          have q2' : Rd_parts r2 2 = NN V2 := by rw [p2, upd_at rfl]
          have eR : setR 2 (Pg_rules pr) (Rd_parts r2) = upd (upd (upd (Pg_rules pr) 3 (NN V0)) 4 (NN V1)) 5 (NN V2) := by
            unfold setR
            rw [if_neg (by omega), if_neg (by omega), if_pos rfl, q0', q1', q2']
          rw [eR]
          by_cases k3 : k = 3
          · subst k3
            exact ⟨V0, by refine ⟨?_, ?_, ?_, ?_, ?_, ?_⟩ <;> omega, by rw [upd_ne (by omega), upd_ne (by omega), upd_at rfl], by rw [upd_ne (by omega), upd_ne (by omega), upd_at rfl]⟩
          · by_cases k4 : k = 4
            · subst k4
              exact ⟨V1, by refine ⟨?_, ?_, ?_, ?_, ?_, ?_⟩ <;> omega, by rw [upd_ne (by omega), upd_at rfl], by rw [upd_ne (by omega), upd_at rfl]⟩
            · by_cases k5 : k = 5
              · subst k5
                exact ⟨V2, by refine ⟨?_, ?_, ?_, ?_, ?_, ?_⟩ <;> omega, by rw [upd_at rfl], by rw [upd_at rfl]⟩
              · obtain ⟨r, y1, y2, y3⟩ := hD.2.2.2.1 k hk
                exact ⟨r, y1, by rw [upd_ne k5, upd_ne k4, upd_ne k3]; exact y2, by rw [upd_ne (by omega), upd_ne (by omega), upd_ne (by omega)]; exact y3⟩
        · rw [c0, bd_some, c1, bd_some, c2, bd_some] at hC0
          have hM := M_lineQ h3 h4 eO n0 n1 n2
          obtain ⟨f1, f2, f3, f4, f5, f6⟩ := FR1_trans fr01 fr2
          obtain ⟨m1', m2', m3', m4', m5', m6', m7', m8', m9'⟩ := FM1_trans (FM1_trans fm0 fm1) fm2
          refine Or.inr (bad_end hC0 hM B2 ⟨⟨f1, f2, f3, f4, f5⟩, ⟨m1', m2', m3', m4', m5', m6', m7'⟩, ?_⟩)
          show LOW (M_cd m) (nC (M_cd a2) (upd (M_number (M_cd a2)) 15 (NN 1)))
          rw [cd2]
          show LOW (M_cd m) (nC (M_cd a1) (upd (upd (M_number (M_cd a1)) 14 (NN V1)) 15 (NN 1)))
          rw [cd1]
          show LOW (M_cd m) (nC (M_cd a0) (upd (upd (upd (M_number (M_cd a0)) 13 (NN V0)) 14 (NN V1)) 15 (NN 1)))
          rw [cd0]
          exact LOW_n fun k hk => by rw [upd_ne (by omega), upd_ne (by omega), upd_ne (by omega)]; rfl
      · obtain ⟨f, hf, e1, e2⟩ := BD_fault B1
        rw [c0, bd_some, c1, bd_some, cst_bad e1 hf, bd_some] at hC0
        have n2 := NB (sN a1 4 (NN 1)) f hf e2
        have hM := M_lineQ h3 h4 eO n0 n1 n2
        obtain ⟨f1, f2, f3, f4, f5, f6⟩ := FR1_trans fr0 fr1
        obtain ⟨m1', m2', m3', m4', m5', m6', m7', m8', m9'⟩ := FM1_trans fm0 fm1
        refine Or.inr (bad_end hC0 hM B1 ⟨⟨f1, f2, f3, f4, f5⟩, ⟨m1', m2', m3', m4', m5', m6', m7'⟩, ?_⟩)
        show LOW (M_cd m) (nC (M_cd a1) (upd (upd (M_number (M_cd a1)) 14 (NN 1)) 15 (NN 1)))
        rw [cd1]
        show LOW (M_cd m) (nC (M_cd a0) (upd (upd (upd (M_number (M_cd a0)) 13 (NN V0)) 14 (NN 1)) 15 (NN 1)))
        rw [cd0]
        exact LOW_n fun k hk => by rw [upd_ne (by omega), upd_ne (by omega), upd_ne (by omega)]; rfl
    · obtain ⟨f, hf, e1, e2⟩ := BD_fault B0
      rw [c0, bd_some, cst_bad e1 hf, bd_some, cst_bad e1 hf, bd_some] at hC0
      have n1 := NB (sN a0 3 (NN 1)) f hf e2
      have n2 := NB (sN (sN a0 3 (NN 1)) 4 (NN 1)) f hf e2
      have hM := M_lineQ h3 h4 eO n0 n1 n2
      obtain ⟨f1, f2, f3, f4, f5, f6⟩ := fr0
      obtain ⟨m1', m2', m3', m4', m5', m6', m7', m8', m9'⟩ := fm0
      refine Or.inr (bad_end hC0 hM B0 ⟨⟨f1, f2, f3, f4, f5⟩, ⟨m1', m2', m3', m4', m5', m6', m7'⟩, ?_⟩)
      show LOW (M_cd m) (nC (M_cd a0) (upd (upd (upd (M_number (M_cd a0)) 13 (NN 1)) 14 (NN 1)) 15 (NN 1)))
      rw [cd0]
      exact LOW_n fun k hk => by rw [upd_ne (by omega), upd_ne (by omega), upd_ne (by omega)]; rfl
  · have eO := M_once1 (by omega : 2 < 5) x2 ht
    have n0 := NB (oM (wM m (NN 3) (M_place (M_rd m))) 2) 3 (by omega) rfl
    have n1 := NB (sN (oM (wM m (NN 3) (M_place (M_rd m))) 2) 3 (NN 1)) 3 (by omega) rfl
    have n2 := NB (sN (sN (oM (wM m (NN 3) (M_place (M_rd m))) 2) 3 (NN 1)) 4 (NN 1)) 3 (by omega) rfl
    exact Or.inr (told_bad hA hwd hD (by omega) h1 h2 ht (M_lineQ h3 h4 eO n0 n1 n2) rfl ⟨rfl, rfl, rfl, rfl, rfl, rfl, rfl⟩ (LOW_n (c := M_cd m) (N := upd (upd (upd (M_number (M_cd m)) 13 (NN 1)) 14 (NN 1)) 15 (NN 1)) fun k hk => by rw [upd_ne (by omega), upd_ne (by omega), upd_ne (by omega)]))
