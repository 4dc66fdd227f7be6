/-! LONG -/
theorem RPa_dd {B : Nat} {pa : T_Pa} {pr : T_Pg} {v : T_M} (h : RPa B pa pr v) : ∃ dn dw, dn ≤ 1 ∧ dw ≤ 1 ∧ Pa_done pa = NN dn ∧ M_s (M_rn v) 226 = NN dn ∧ Pa_down pa = NN dw ∧ M_s (M_rn v) 227 = NN dw := by
  obtain ⟨n, sp, lo, hi, z0, z1, z2, tr, pl, nl, pt, nt, pb, fl, nld, fb, nbr, nh, nc, ns, no, tu, po, al, si, sm, dn, dw, hcd, hru, hq, hbk, hou, hta, hdn, hdw, hbd⟩ := h
  exact ⟨dn, dw, hdn.2.2, hdw.2.2, hdn.1, hdn.2.1, hdw.1, hdw.2.1⟩
theorem one_turn {B : Nat} {pa : T_Pa} {pr : T_Pg} {v0 : T_M} {row : Nat → Int32} {pt : Int32} (h : RPa B pa pr (mP v0 row pt)) (hB : B < 1000000) (hdn : Pa_done pa = NN 0) (hdw : Pa_down pa = NN 0) :
    ∃ kind pa' row' pt', f_Pa_turn pa pr = some (NN kind, pa') ∧ f_M_turns (mP v0 row pt) (NN 0) = some (NN 1, mP v0 row' pt') ∧ RPa (B + 1) pa' pr (mP v0 row' pt') ∧ row' 219 = row 219 + NN 1 := by
  obtain ⟨a, b, c, d, e1, e2, e3, e4, e5, e6⟩ := sim_turn2 h hB hdn hdw
  exact ⟨a, b, c, d, e2, e3, e4, e5⟩
theorem one_turn7 {B : Nat} {pa : T_Pa} {pr : T_Pg} {v0 : T_M} {row : Nat → Int32} {pt : Int32} (h : RPa B pa pr (mP v0 row pt)) (hB : B < 1000000) (hdn : Pa_done pa = NN 0) (hdw : Pa_down pa = NN 0) :
    ∃ pa' row' pt', f_Pa_alarmByNothing pa = some pa' ∧ f_M_turns (mP v0 row pt) (NN 7) = some (NN 1, mP v0 row' pt') ∧ RPa (B + 1) pa' pr (mP v0 row' pt') ∧ row' 219 = row 219 + NN 1 := by
  obtain ⟨a, c, e2, e3, e4, e5⟩ := sim_turn7 h hB hdn hdw
  exact ⟨a, c, pt, e2, e3, e4, e5⟩
set_option maxHeartbeats 4000000 in
theorem long_loop (pr : T_Pg) (k69 : Int32 → T_Pa → Option (Int32 × T_Pa)) (kN : T_Pa → Option (Int32 × T_Pa)) (k86 k89 : T_M → Option (Int32 × T_M)) (v0 : T_M) (al : Nat) (hal : al ≤ 200) :
    ∀ d t n1 n2 pa row pt, t + d = 999 → d < n1 → d + 1 < n2 → RPa t pa pr (mP v0 row pt) → Pa_done pa = NN 0 → Pa_down pa = NN 0 → row 219 = NN t →
      ∃ pa' row' pt', RPa 999 pa' pr (mP v0 row' pt') ∧
        ((∃ t', 1 ≤ t' ∧ t' ≤ 999 ∧ f_TT_turnsTillDone_L27 pr (NN al) k69 kN kN n1 (NN (t + 1)) pa = k69 (NN t') pa' ∧ f_M_longs_L32 (NN al) k86 k89 n2 (mP v0 row pt) = k86 (mP v0 row' pt') ∧ row' 226 = NN 1 ∧ row' 219 = NN t') ∨
         (f_TT_turnsTillDone_L27 pr (NN al) k69 kN kN n1 (NN (t + 1)) pa = kN pa' ∧ f_M_longs_L32 (NN al) k86 k89 n2 (mP v0 row pt) = k89 (mP v0 row' pt') ∧ row' 226 = NN 0)) := by
  intro d
  induction d with
  | zero =>
    intro t n1 n2 pa row pt ht h1 h2 h o1 o2 e9
    obtain ⟨n1, rfl⟩ : ∃ q, n1 = q + 1 := ⟨n1 - 1, by omega⟩
    obtain ⟨n2, rfl⟩ : ∃ q, n2 = q + 1 := ⟨n2 - 1, by omega⟩
    have hrow : M_s (M_rn (mP v0 row pt)) = row := rfl
    obtain ⟨dn, dw, x1, x2, x3, x4, x5, x6⟩ := RPa_dd h
    have hdn0 : dn = 0 := n_inj (by omega) (by omega) (x3.symm.trans o1)
    subst hdn0
    obtain rfl : t = 999 := by omega
    refine ⟨pa, row, pt, h, Or.inr ⟨?_, ?_, x4⟩⟩
    · rw [f_TT_turnsTillDone_L27]
      repeat first | (with_reducible refine s_nmj1 ?_) | (with_reducible refine s_nmj2 ?_) | ((with_reducible refine s_nm ?_); intro y_ hy_; (try simp (disch := omega) only [n_lit, n_add, n_mul, n_sub, n_tn, n_ltT, n_ltF, n_leT, n_leF, n_eqT, n_eqF, n_div, n_ixT, n_ixF, n_not, n_md, n_dec, n_and1, n_and3, n_and7, n_and15, n_and31, n_and63, Nat.mod_eq_of_lt, Nat.zero_add, Nat.add_zero, Nat.zero_mul, Nat.sub_zero, not_false_eq_true, not_true_eq_false, upd_at, upd_ne] at hy_); subst hy_) | ((with_reducible refine s_pos ?_ ?_); · simp (disch := omega) only [n_lit, n_add, n_mul, n_sub, n_tn, n_ltT, n_ltF, n_leT, n_leF, n_eqT, n_eqF, n_div, n_ixT, n_ixF, n_not, n_md, n_dec, n_and1, n_and3, n_and7, n_and15, n_and31, n_and63, Nat.mod_eq_of_lt, Nat.zero_add, Nat.add_zero, Nat.zero_mul, Nat.sub_zero, not_false_eq_true, not_true_eq_false, upd_at, upd_ne]) | ((with_reducible refine s_neg ?_ ?_); · simp (disch := omega) only [n_lit, n_add, n_mul, n_sub, n_tn, n_ltT, n_ltF, n_leT, n_leF, n_eqT, n_eqF, n_div, n_ixT, n_ixF, n_not, n_md, n_dec, n_and1, n_and3, n_and7, n_and15, n_and31, n_and63, Nat.mod_eq_of_lt, Nat.zero_add, Nat.add_zero, Nat.zero_mul, Nat.sub_zero, not_false_eq_true, not_true_eq_false, upd_at, upd_ne]) 
      rfl
    · rw [f_M_longs_L32]
      repeat first | (with_reducible refine s_nmj1 ?_) | (with_reducible refine s_nmj2 ?_) | ((with_reducible refine s_nm ?_); intro y_ hy_; (try simp (disch := omega) only [n_lit, n_add, n_mul, n_sub, n_tn, n_ltT, n_ltF, n_leT, n_leF, n_eqT, n_eqF, n_div, n_ixT, n_ixF, n_not, n_md, n_dec, n_and1, n_and3, n_and7, n_and15, n_and31, n_and63, Nat.mod_eq_of_lt, Nat.zero_add, Nat.add_zero, Nat.zero_mul, Nat.sub_zero, not_false_eq_true, not_true_eq_false, upd_at, upd_ne, hrow, e9] at hy_); subst hy_) | ((with_reducible refine s_pos ?_ ?_); · simp (disch := omega) only [n_lit, n_add, n_mul, n_sub, n_tn, n_ltT, n_ltF, n_leT, n_leF, n_eqT, n_eqF, n_div, n_ixT, n_ixF, n_not, n_md, n_dec, n_and1, n_and3, n_and7, n_and15, n_and31, n_and63, Nat.mod_eq_of_lt, Nat.zero_add, Nat.add_zero, Nat.zero_mul, Nat.sub_zero, not_false_eq_true, not_true_eq_false, upd_at, upd_ne, hrow, e9]) | ((with_reducible refine s_neg ?_ ?_); · simp (disch := omega) only [n_lit, n_add, n_mul, n_sub, n_tn, n_ltT, n_ltF, n_leT, n_leF, n_eqT, n_eqF, n_div, n_ixT, n_ixF, n_not, n_md, n_dec, n_and1, n_and3, n_and7, n_and15, n_and31, n_and63, Nat.mod_eq_of_lt, Nat.zero_add, Nat.add_zero, Nat.zero_mul, Nat.sub_zero, not_false_eq_true, not_true_eq_false, upd_at, upd_ne, hrow, e9]) 
      rfl
  | succ d ih =>
    intro t n1 n2 pa row pt ht h1 h2 h o1 o2 e9
    obtain ⟨n1, rfl⟩ : ∃ q, n1 = q + 1 := ⟨n1 - 1, by omega⟩
    obtain ⟨n2, rfl⟩ : ∃ q, n2 = q + 1 := ⟨n2 - 1, by omega⟩
    have hrow : M_s (M_rn (mP v0 row pt)) = row := rfl
    have key : ∃ pa1 row1 pt1, RPa (t + 1) pa1 pr (mP v0 row1 pt1) ∧ row1 219 = NN (t + 1) ∧
        f_TT_turnsTillDone_L27 pr (NN al) k69 kN kN (n1 + 1) (NN (t + 1)) pa = (if Pa_done pa1 = (0 : Int32) then (if Pa_down pa1 = (0 : Int32) then f_TT_turnsTillDone_L27 pr (NN al) k69 kN kN n1 (NN (t + 1 + 1)) pa1 else kN pa1) else k69 (NN (t + 1)) pa1) ∧
        f_M_longs_L32 (NN al) k86 k89 (n2 + 1) (mP v0 row pt) = (if row1 226 = (1 : Int32) then k86 (mP v0 row1 pt1) else f_M_longs_L32 (NN al) k86 k89 n2 (mP v0 row1 pt1)) := by
      by_cases q : t + 1 = al
      · obtain ⟨pa1, row1, pt1, c2, c3, c4, c5⟩ := one_turn7 h (by omega) o1 o2
        rw [e9, n_add] at c5
        refine ⟨pa1, row1, pt1, c4, c5, ?_, ?_⟩
        · rw [f_TT_turnsTillDone_L27]
          repeat first | (with_reducible refine s_nmj1 ?_) | (with_reducible refine s_nmj2 ?_) | ((with_reducible refine s_nm ?_); intro y_ hy_; (try simp (disch := omega) only [n_lit, n_add, n_mul, n_sub, n_tn, n_ltT, n_ltF, n_leT, n_leF, n_eqT, n_eqF, n_div, n_ixT, n_ixF, n_not, n_md, n_dec, n_and1, n_and3, n_and7, n_and15, n_and31, n_and63, Nat.mod_eq_of_lt, Nat.zero_add, Nat.add_zero, Nat.zero_mul, Nat.sub_zero, not_false_eq_true, not_true_eq_false, upd_at, upd_ne] at hy_); subst hy_) | ((with_reducible refine s_pos ?_ ?_); · simp (disch := omega) only [n_lit, n_add, n_mul, n_sub, n_tn, n_ltT, n_ltF, n_leT, n_leF, n_eqT, n_eqF, n_div, n_ixT, n_ixF, n_not, n_md, n_dec, n_and1, n_and3, n_and7, n_and15, n_and31, n_and63, Nat.mod_eq_of_lt, Nat.zero_add, Nat.add_zero, Nat.zero_mul, Nat.sub_zero, not_false_eq_true, not_true_eq_false, upd_at, upd_ne]) | ((with_reducible refine s_neg ?_ ?_); · simp (disch := omega) only [n_lit, n_add, n_mul, n_sub, n_tn, n_ltT, n_ltF, n_leT, n_leF, n_eqT, n_eqF, n_div, n_ixT, n_ixF, n_not, n_md, n_dec, n_and1, n_and3, n_and7, n_and15, n_and31, n_and63, Nat.mod_eq_of_lt, Nat.zero_add, Nat.add_zero, Nat.zero_mul, Nat.sub_zero, not_false_eq_true, not_true_eq_false, upd_at, upd_ne])  | (with_reducible refine s_bd c2 ?_)
          simp only [nm, n_lit, n_add]
          rfl
        · rw [f_M_longs_L32]
          repeat first | (with_reducible refine s_nmj1 ?_) | (with_reducible refine s_nmj2 ?_) | ((with_reducible refine s_nm ?_); intro y_ hy_; (try simp (disch := omega) only [n_lit, n_add, n_mul, n_sub, n_tn, n_ltT, n_ltF, n_leT, n_leF, n_eqT, n_eqF, n_div, n_ixT, n_ixF, n_not, n_md, n_dec, n_and1, n_and3, n_and7, n_and15, n_and31, n_and63, Nat.mod_eq_of_lt, Nat.zero_add, Nat.add_zero, Nat.zero_mul, Nat.sub_zero, not_false_eq_true, not_true_eq_false, upd_at, upd_ne, hrow, e9] at hy_); subst hy_) | ((with_reducible refine s_pos ?_ ?_); · simp (disch := omega) only [n_lit, n_add, n_mul, n_sub, n_tn, n_ltT, n_ltF, n_leT, n_leF, n_eqT, n_eqF, n_div, n_ixT, n_ixF, n_not, n_md, n_dec, n_and1, n_and3, n_and7, n_and15, n_and31, n_and63, Nat.mod_eq_of_lt, Nat.zero_add, Nat.add_zero, Nat.zero_mul, Nat.sub_zero, not_false_eq_true, not_true_eq_false, upd_at, upd_ne, hrow, e9]) | ((with_reducible refine s_neg ?_ ?_); · simp (disch := omega) only [n_lit, n_add, n_mul, n_sub, n_tn, n_ltT, n_ltF, n_leT, n_leF, n_eqT, n_eqF, n_div, n_ixT, n_ixF, n_not, n_md, n_dec, n_and1, n_and3, n_and7, n_and15, n_and31, n_and63, Nat.mod_eq_of_lt, Nat.zero_add, Nat.add_zero, Nat.zero_mul, Nat.sub_zero, not_false_eq_true, not_true_eq_false, upd_at, upd_ne, hrow, e9]) 
          refine s_bd2 c3 ?_
          repeat first | (with_reducible refine s_nmj1 ?_) | (with_reducible refine s_nmj2 ?_) | ((with_reducible refine s_nm ?_); intro y_ hy_; (try simp (disch := omega) only [n_lit, n_add, n_mul, n_sub, n_tn, n_ltT, n_ltF, n_leT, n_leF, n_eqT, n_eqF, n_div, n_ixT, n_ixF, n_not, n_md, n_dec, n_and1, n_and3, n_and7, n_and15, n_and31, n_and63, Nat.mod_eq_of_lt, Nat.zero_add, Nat.add_zero, Nat.zero_mul, Nat.sub_zero, not_false_eq_true, not_true_eq_false, upd_at, upd_ne] at hy_); subst hy_) | ((with_reducible refine s_pos ?_ ?_); · simp (disch := omega) only [n_lit, n_add, n_mul, n_sub, n_tn, n_ltT, n_ltF, n_leT, n_leF, n_eqT, n_eqF, n_div, n_ixT, n_ixF, n_not, n_md, n_dec, n_and1, n_and3, n_and7, n_and15, n_and31, n_and63, Nat.mod_eq_of_lt, Nat.zero_add, Nat.add_zero, Nat.zero_mul, Nat.sub_zero, not_false_eq_true, not_true_eq_false, upd_at, upd_ne]) | ((with_reducible refine s_neg ?_ ?_); · simp (disch := omega) only [n_lit, n_add, n_mul, n_sub, n_tn, n_ltT, n_ltF, n_leT, n_leF, n_eqT, n_eqF, n_div, n_ixT, n_ixF, n_not, n_md, n_dec, n_and1, n_and3, n_and7, n_and15, n_and31, n_and63, Nat.mod_eq_of_lt, Nat.zero_add, Nat.add_zero, Nat.zero_mul, Nat.sub_zero, not_false_eq_true, not_true_eq_false, upd_at, upd_ne]) 
          rfl
      · obtain ⟨kind, pa1, row1, pt1, c2, c3, c4, c5⟩ := one_turn h (by omega) o1 o2
        rw [e9, n_add] at c5
        refine ⟨pa1, row1, pt1, c4, c5, ?_, ?_⟩
        · rw [f_TT_turnsTillDone_L27]
          repeat first | (with_reducible refine s_nmj1 ?_) | (with_reducible refine s_nmj2 ?_) | ((with_reducible refine s_nm ?_); intro y_ hy_; (try simp (disch := omega) only [n_lit, n_add, n_mul, n_sub, n_tn, n_ltT, n_ltF, n_leT, n_leF, n_eqT, n_eqF, n_div, n_ixT, n_ixF, n_not, n_md, n_dec, n_and1, n_and3, n_and7, n_and15, n_and31, n_and63, Nat.mod_eq_of_lt, Nat.zero_add, Nat.add_zero, Nat.zero_mul, Nat.sub_zero, not_false_eq_true, not_true_eq_false, upd_at, upd_ne] at hy_); subst hy_) | ((with_reducible refine s_pos ?_ ?_); · simp (disch := omega) only [n_lit, n_add, n_mul, n_sub, n_tn, n_ltT, n_ltF, n_leT, n_leF, n_eqT, n_eqF, n_div, n_ixT, n_ixF, n_not, n_md, n_dec, n_and1, n_and3, n_and7, n_and15, n_and31, n_and63, Nat.mod_eq_of_lt, Nat.zero_add, Nat.add_zero, Nat.zero_mul, Nat.sub_zero, not_false_eq_true, not_true_eq_false, upd_at, upd_ne]) | ((with_reducible refine s_neg ?_ ?_); · simp (disch := omega) only [n_lit, n_add, n_mul, n_sub, n_tn, n_ltT, n_ltF, n_leT, n_leF, n_eqT, n_eqF, n_div, n_ixT, n_ixF, n_not, n_md, n_dec, n_and1, n_and3, n_and7, n_and15, n_and31, n_and63, Nat.mod_eq_of_lt, Nat.zero_add, Nat.add_zero, Nat.zero_mul, Nat.sub_zero, not_false_eq_true, not_true_eq_false, upd_at, upd_ne])  | (with_reducible refine s_bd2 c2 ?_)
          simp only [nm, n_lit, n_add]
          rfl
        · rw [f_M_longs_L32]
          repeat first | (with_reducible refine s_nmj1 ?_) | (with_reducible refine s_nmj2 ?_) | ((with_reducible refine s_nm ?_); intro y_ hy_; (try simp (disch := omega) only [n_lit, n_add, n_mul, n_sub, n_tn, n_ltT, n_ltF, n_leT, n_leF, n_eqT, n_eqF, n_div, n_ixT, n_ixF, n_not, n_md, n_dec, n_and1, n_and3, n_and7, n_and15, n_and31, n_and63, Nat.mod_eq_of_lt, Nat.zero_add, Nat.add_zero, Nat.zero_mul, Nat.sub_zero, not_false_eq_true, not_true_eq_false, upd_at, upd_ne, hrow, e9] at hy_); subst hy_) | ((with_reducible refine s_pos ?_ ?_); · simp (disch := omega) only [n_lit, n_add, n_mul, n_sub, n_tn, n_ltT, n_ltF, n_leT, n_leF, n_eqT, n_eqF, n_div, n_ixT, n_ixF, n_not, n_md, n_dec, n_and1, n_and3, n_and7, n_and15, n_and31, n_and63, Nat.mod_eq_of_lt, Nat.zero_add, Nat.add_zero, Nat.zero_mul, Nat.sub_zero, not_false_eq_true, not_true_eq_false, upd_at, upd_ne, hrow, e9]) | ((with_reducible refine s_neg ?_ ?_); · simp (disch := omega) only [n_lit, n_add, n_mul, n_sub, n_tn, n_ltT, n_ltF, n_leT, n_leF, n_eqT, n_eqF, n_div, n_ixT, n_ixF, n_not, n_md, n_dec, n_and1, n_and3, n_and7, n_and15, n_and31, n_and63, Nat.mod_eq_of_lt, Nat.zero_add, Nat.add_zero, Nat.zero_mul, Nat.sub_zero, not_false_eq_true, not_true_eq_false, upd_at, upd_ne, hrow, e9]) 
          refine s_bd2 c3 ?_
          repeat first | (with_reducible refine s_nmj1 ?_) | (with_reducible refine s_nmj2 ?_) | ((with_reducible refine s_nm ?_); intro y_ hy_; (try simp (disch := omega) only [n_lit, n_add, n_mul, n_sub, n_tn, n_ltT, n_ltF, n_leT, n_leF, n_eqT, n_eqF, n_div, n_ixT, n_ixF, n_not, n_md, n_dec, n_and1, n_and3, n_and7, n_and15, n_and31, n_and63, Nat.mod_eq_of_lt, Nat.zero_add, Nat.add_zero, Nat.zero_mul, Nat.sub_zero, not_false_eq_true, not_true_eq_false, upd_at, upd_ne] at hy_); subst hy_) | ((with_reducible refine s_pos ?_ ?_); · simp (disch := omega) only [n_lit, n_add, n_mul, n_sub, n_tn, n_ltT, n_ltF, n_leT, n_leF, n_eqT, n_eqF, n_div, n_ixT, n_ixF, n_not, n_md, n_dec, n_and1, n_and3, n_and7, n_and15, n_and31, n_and63, Nat.mod_eq_of_lt, Nat.zero_add, Nat.add_zero, Nat.zero_mul, Nat.sub_zero, not_false_eq_true, not_true_eq_false, upd_at, upd_ne]) | ((with_reducible refine s_neg ?_ ?_); · simp (disch := omega) only [n_lit, n_add, n_mul, n_sub, n_tn, n_ltT, n_ltF, n_leT, n_leF, n_eqT, n_eqF, n_div, n_ixT, n_ixF, n_not, n_md, n_dec, n_and1, n_and3, n_and7, n_and15, n_and31, n_and63, Nat.mod_eq_of_lt, Nat.zero_add, Nat.add_zero, Nat.zero_mul, Nat.sub_zero, not_false_eq_true, not_true_eq_false, upd_at, upd_ne]) 
          rfl
    obtain ⟨pa1, row1, pt1, c4, c5, kC, kM⟩ := key
    have hrow1 : M_s (M_rn (mP v0 row1 pt1)) = row1 := rfl
    obtain ⟨dn, dw, x1, x2, x3, x4, x5, x6⟩ := RPa_dd c4
    rw [hrow1] at x4
    rw [kC, kM, x3, x5, x4]
    by_cases q1 : dn = 1
    · subst q1
      refine ⟨pa1, row1, pt1, RPa_mono c4 (by omega), Or.inl ⟨t + 1, by omega, by omega, ?_, ?_, x4, c5⟩⟩
      · repeat first | (with_reducible refine s_nmj1 ?_) | (with_reducible refine s_nmj2 ?_) | ((with_reducible refine s_nm ?_); intro y_ hy_; (try simp (disch := omega) only [n_lit, n_add, n_mul, n_sub, n_tn, n_ltT, n_ltF, n_leT, n_leF, n_eqT, n_eqF, n_div, n_ixT, n_ixF, n_not, n_md, n_dec, n_and1, n_and3, n_and7, n_and15, n_and31, n_and63, Nat.mod_eq_of_lt, Nat.zero_add, Nat.add_zero, Nat.zero_mul, Nat.sub_zero, not_false_eq_true, not_true_eq_false, upd_at, upd_ne] at hy_); subst hy_) | ((with_reducible refine s_pos ?_ ?_); · simp (disch := omega) only [n_lit, n_add, n_mul, n_sub, n_tn, n_ltT, n_ltF, n_leT, n_leF, n_eqT, n_eqF, n_div, n_ixT, n_ixF, n_not, n_md, n_dec, n_and1, n_and3, n_and7, n_and15, n_and31, n_and63, Nat.mod_eq_of_lt, Nat.zero_add, Nat.add_zero, Nat.zero_mul, Nat.sub_zero, not_false_eq_true, not_true_eq_false, upd_at, upd_ne]) | ((with_reducible refine s_neg ?_ ?_); · simp (disch := omega) only [n_lit, n_add, n_mul, n_sub, n_tn, n_ltT, n_ltF, n_leT, n_leF, n_eqT, n_eqF, n_div, n_ixT, n_ixF, n_not, n_md, n_dec, n_and1, n_and3, n_and7, n_and15, n_and31, n_and63, Nat.mod_eq_of_lt, Nat.zero_add, Nat.add_zero, Nat.zero_mul, Nat.sub_zero, not_false_eq_true, not_true_eq_false, upd_at, upd_ne]) 
        rfl
      · repeat first | (with_reducible refine s_nmj1 ?_) | (with_reducible refine s_nmj2 ?_) | ((with_reducible refine s_nm ?_); intro y_ hy_; (try simp (disch := omega) only [n_lit, n_add, n_mul, n_sub, n_tn, n_ltT, n_ltF, n_leT, n_leF, n_eqT, n_eqF, n_div, n_ixT, n_ixF, n_not, n_md, n_dec, n_and1, n_and3, n_and7, n_and15, n_and31, n_and63, Nat.mod_eq_of_lt, Nat.zero_add, Nat.add_zero, Nat.zero_mul, Nat.sub_zero, not_false_eq_true, not_true_eq_false, upd_at, upd_ne] at hy_); subst hy_) | ((with_reducible refine s_pos ?_ ?_); · simp (disch := omega) only [n_lit, n_add, n_mul, n_sub, n_tn, n_ltT, n_ltF, n_leT, n_leF, n_eqT, n_eqF, n_div, n_ixT, n_ixF, n_not, n_md, n_dec, n_and1, n_and3, n_and7, n_and15, n_and31, n_and63, Nat.mod_eq_of_lt, Nat.zero_add, Nat.add_zero, Nat.zero_mul, Nat.sub_zero, not_false_eq_true, not_true_eq_false, upd_at, upd_ne]) | ((with_reducible refine s_neg ?_ ?_); · simp (disch := omega) only [n_lit, n_add, n_mul, n_sub, n_tn, n_ltT, n_ltF, n_leT, n_leF, n_eqT, n_eqF, n_div, n_ixT, n_ixF, n_not, n_md, n_dec, n_and1, n_and3, n_and7, n_and15, n_and31, n_and63, Nat.mod_eq_of_lt, Nat.zero_add, Nat.add_zero, Nat.zero_mul, Nat.sub_zero, not_false_eq_true, not_true_eq_false, upd_at, upd_ne]) 
        rfl
    · obtain rfl : dn = 0 := by omega
      by_cases q2 : dw = 1
      · subst q2
        refine ⟨pa1, row1, pt1, RPa_mono c4 (by omega), Or.inr ⟨?_, ?_, x4⟩⟩
        · repeat first | (with_reducible refine s_nmj1 ?_) | (with_reducible refine s_nmj2 ?_) | ((with_reducible refine s_nm ?_); intro y_ hy_; (try simp (disch := omega) only [n_lit, n_add, n_mul, n_sub, n_tn, n_ltT, n_ltF, n_leT, n_leF, n_eqT, n_eqF, n_div, n_ixT, n_ixF, n_not, n_md, n_dec, n_and1, n_and3, n_and7, n_and15, n_and31, n_and63, Nat.mod_eq_of_lt, Nat.zero_add, Nat.add_zero, Nat.zero_mul, Nat.sub_zero, not_false_eq_true, not_true_eq_false, upd_at, upd_ne] at hy_); subst hy_) | ((with_reducible refine s_pos ?_ ?_); · simp (disch := omega) only [n_lit, n_add, n_mul, n_sub, n_tn, n_ltT, n_ltF, n_leT, n_leF, n_eqT, n_eqF, n_div, n_ixT, n_ixF, n_not, n_md, n_dec, n_and1, n_and3, n_and7, n_and15, n_and31, n_and63, Nat.mod_eq_of_lt, Nat.zero_add, Nat.add_zero, Nat.zero_mul, Nat.sub_zero, not_false_eq_true, not_true_eq_false, upd_at, upd_ne]) | ((with_reducible refine s_neg ?_ ?_); · simp (disch := omega) only [n_lit, n_add, n_mul, n_sub, n_tn, n_ltT, n_ltF, n_leT, n_leF, n_eqT, n_eqF, n_div, n_ixT, n_ixF, n_not, n_md, n_dec, n_and1, n_and3, n_and7, n_and15, n_and31, n_and63, Nat.mod_eq_of_lt, Nat.zero_add, Nat.add_zero, Nat.zero_mul, Nat.sub_zero, not_false_eq_true, not_true_eq_false, upd_at, upd_ne]) 
          rfl
        · repeat first | (with_reducible refine s_nmj1 ?_) | (with_reducible refine s_nmj2 ?_) | ((with_reducible refine s_nm ?_); intro y_ hy_; (try simp (disch := omega) only [n_lit, n_add, n_mul, n_sub, n_tn, n_ltT, n_ltF, n_leT, n_leF, n_eqT, n_eqF, n_div, n_ixT, n_ixF, n_not, n_md, n_dec, n_and1, n_and3, n_and7, n_and15, n_and31, n_and63, Nat.mod_eq_of_lt, Nat.zero_add, Nat.add_zero, Nat.zero_mul, Nat.sub_zero, not_false_eq_true, not_true_eq_false, upd_at, upd_ne] at hy_); subst hy_) | ((with_reducible refine s_pos ?_ ?_); · simp (disch := omega) only [n_lit, n_add, n_mul, n_sub, n_tn, n_ltT, n_ltF, n_leT, n_leF, n_eqT, n_eqF, n_div, n_ixT, n_ixF, n_not, n_md, n_dec, n_and1, n_and3, n_and7, n_and15, n_and31, n_and63, Nat.mod_eq_of_lt, Nat.zero_add, Nat.add_zero, Nat.zero_mul, Nat.sub_zero, not_false_eq_true, not_true_eq_false, upd_at, upd_ne]) | ((with_reducible refine s_neg ?_ ?_); · simp (disch := omega) only [n_lit, n_add, n_mul, n_sub, n_tn, n_ltT, n_ltF, n_leT, n_leF, n_eqT, n_eqF, n_div, n_ixT, n_ixF, n_not, n_md, n_dec, n_and1, n_and3, n_and7, n_and15, n_and31, n_and63, Nat.mod_eq_of_lt, Nat.zero_add, Nat.add_zero, Nat.zero_mul, Nat.sub_zero, not_false_eq_true, not_true_eq_false, upd_at, upd_ne]) 
          obtain ⟨n2, rfl⟩ : ∃ q, n2 = q + 1 := ⟨n2 - 1, by omega⟩
          have ov := (M_over (v := mP v0 row1 pt1) (dn := 0) (dw := 1) (by omega) (by omega) x4 x6 (Or.inr rfl))
          rw [f_M_longs_L32]
          by_cases q3 : 999 ≤ t + 1
          · repeat first | (with_reducible refine s_nmj1 ?_) | (with_reducible refine s_nmj2 ?_) | ((with_reducible refine s_nm ?_); intro y_ hy_; (try simp (disch := omega) only [n_lit, n_add, n_mul, n_sub, n_tn, n_ltT, n_ltF, n_leT, n_leF, n_eqT, n_eqF, n_div, n_ixT, n_ixF, n_not, n_md, n_dec, n_and1, n_and3, n_and7, n_and15, n_and31, n_and63, Nat.mod_eq_of_lt, Nat.zero_add, Nat.add_zero, Nat.zero_mul, Nat.sub_zero, not_false_eq_true, not_true_eq_false, upd_at, upd_ne, hrow1, c5] at hy_); subst hy_) | ((with_reducible refine s_pos ?_ ?_); · simp (disch := omega) only [n_lit, n_add, n_mul, n_sub, n_tn, n_ltT, n_ltF, n_leT, n_leF, n_eqT, n_eqF, n_div, n_ixT, n_ixF, n_not, n_md, n_dec, n_and1, n_and3, n_and7, n_and15, n_and31, n_and63, Nat.mod_eq_of_lt, Nat.zero_add, Nat.add_zero, Nat.zero_mul, Nat.sub_zero, not_false_eq_true, not_true_eq_false, upd_at, upd_ne, hrow1, c5]) | ((with_reducible refine s_neg ?_ ?_); · simp (disch := omega) only [n_lit, n_add, n_mul, n_sub, n_tn, n_ltT, n_ltF, n_leT, n_leF, n_eqT, n_eqF, n_div, n_ixT, n_ixF, n_not, n_md, n_dec, n_and1, n_and3, n_and7, n_and15, n_and31, n_and63, Nat.mod_eq_of_lt, Nat.zero_add, Nat.add_zero, Nat.zero_mul, Nat.sub_zero, not_false_eq_true, not_true_eq_false, upd_at, upd_ne, hrow1, c5]) 
            rfl
          · by_cases q4 : t + 1 + 1 = al
            · repeat first | (with_reducible refine s_nmj1 ?_) | (with_reducible refine s_nmj2 ?_) | ((with_reducible refine s_nm ?_); intro y_ hy_; (try simp (disch := omega) only [n_lit, n_add, n_mul, n_sub, n_tn, n_ltT, n_ltF, n_leT, n_leF, n_eqT, n_eqF, n_div, n_ixT, n_ixF, n_not, n_md, n_dec, n_and1, n_and3, n_and7, n_and15, n_and31, n_and63, Nat.mod_eq_of_lt, Nat.zero_add, Nat.add_zero, Nat.zero_mul, Nat.sub_zero, not_false_eq_true, not_true_eq_false, upd_at, upd_ne, hrow1, c5] at hy_); subst hy_) | ((with_reducible refine s_pos ?_ ?_); · simp (disch := omega) only [n_lit, n_add, n_mul, n_sub, n_tn, n_ltT, n_ltF, n_leT, n_leF, n_eqT, n_eqF, n_div, n_ixT, n_ixF, n_not, n_md, n_dec, n_and1, n_and3, n_and7, n_and15, n_and31, n_and63, Nat.mod_eq_of_lt, Nat.zero_add, Nat.add_zero, Nat.zero_mul, Nat.sub_zero, not_false_eq_true, not_true_eq_false, upd_at, upd_ne, hrow1, c5]) | ((with_reducible refine s_neg ?_ ?_); · simp (disch := omega) only [n_lit, n_add, n_mul, n_sub, n_tn, n_ltT, n_ltF, n_leT, n_leF, n_eqT, n_eqF, n_div, n_ixT, n_ixF, n_not, n_md, n_dec, n_and1, n_and3, n_and7, n_and15, n_and31, n_and63, Nat.mod_eq_of_lt, Nat.zero_add, Nat.add_zero, Nat.zero_mul, Nat.sub_zero, not_false_eq_true, not_true_eq_false, upd_at, upd_ne, hrow1, c5])  | (with_reducible refine s_bd2 (ov _).2 ?_)
              rfl
            · repeat first | (with_reducible refine s_nmj1 ?_) | (with_reducible refine s_nmj2 ?_) | ((with_reducible refine s_nm ?_); intro y_ hy_; (try simp (disch := omega) only [n_lit, n_add, n_mul, n_sub, n_tn, n_ltT, n_ltF, n_leT, n_leF, n_eqT, n_eqF, n_div, n_ixT, n_ixF, n_not, n_md, n_dec, n_and1, n_and3, n_and7, n_and15, n_and31, n_and63, Nat.mod_eq_of_lt, Nat.zero_add, Nat.add_zero, Nat.zero_mul, Nat.sub_zero, not_false_eq_true, not_true_eq_false, upd_at, upd_ne, hrow1, c5] at hy_); subst hy_) | ((with_reducible refine s_pos ?_ ?_); · simp (disch := omega) only [n_lit, n_add, n_mul, n_sub, n_tn, n_ltT, n_ltF, n_leT, n_leF, n_eqT, n_eqF, n_div, n_ixT, n_ixF, n_not, n_md, n_dec, n_and1, n_and3, n_and7, n_and15, n_and31, n_and63, Nat.mod_eq_of_lt, Nat.zero_add, Nat.add_zero, Nat.zero_mul, Nat.sub_zero, not_false_eq_true, not_true_eq_false, upd_at, upd_ne, hrow1, c5]) | ((with_reducible refine s_neg ?_ ?_); · simp (disch := omega) only [n_lit, n_add, n_mul, n_sub, n_tn, n_ltT, n_ltF, n_leT, n_leF, n_eqT, n_eqF, n_div, n_ixT, n_ixF, n_not, n_md, n_dec, n_and1, n_and3, n_and7, n_and15, n_and31, n_and63, Nat.mod_eq_of_lt, Nat.zero_add, Nat.add_zero, Nat.zero_mul, Nat.sub_zero, not_false_eq_true, not_true_eq_false, upd_at, upd_ne, hrow1, c5])  | (with_reducible refine s_bd2 (ov _).2 ?_)
              rfl
      · obtain rfl : dw = 0 := by omega
        obtain ⟨pa', row', pt', f0, f1⟩ := ih (t + 1) n1 n2 pa1 row1 pt1 (by omega) (by omega) (by omega) c4 x3 x5 c5
        refine ⟨pa', row', pt', f0, ?_⟩
        simp only [show ((NN 0 : Int32) = 0) = True from eq_true rfl, show ((NN 0 : Int32) = 1) = False from eq_false (by decide), if_true, if_false]
        exact f1
/-- spans and sizes as they are told -/
def RAs (m : T_M) : Prop := M_spanNow (M_rn m) = M_number (M_cd m) 0 ∧ ∀ k, k < 3 → M_sizeNow (M_rn m) k = M_number (M_cd m) (3 + k)
theorem RPa_mZ {B : Nat} {pa : T_Pa} {pr : T_Pg} {m : T_M} (h : RPa B pa pr m) (ha : RAs m) {row sz : Nat → Int32} (e : ∀ j, j < 314 → row j = M_s (M_rn m) j) (hsz : ∀ k, k < 3 → sz k = M_number (M_cd m) (3 + k)) (pt : Int32) (ex : T_Mx) (al : T_Ml) (th : Int32) :
    RPa B pa pr (mZ m row (M_number (M_cd m) 0) sz pt ex al th) := by
  have h2 := RPa_row h e
  obtain ⟨n, sp, lo, hi, z0, z1, z2, tr, pl, nl, pt', nt, pb, fl, nld, fb, nbr, nh, nc, ns, no, tu, po, al', si, sm, dn, dw, hcd, hru, hq, hbk, hou, hta, hdn, hdw, hbd⟩ := h2
  obtain ⟨u1, u2, u3, u4, u5, u6, u7⟩ := hru
  have s0 : sz 0 = M_sizeNow (M_rn m) 0 := (hsz 0 (by omega)).trans (ha.2 0 (by omega)).symm
  have s1 : sz 1 = M_sizeNow (M_rn m) 1 := (hsz 1 (by omega)).trans (ha.2 1 (by omega)).symm
  have s2 : sz 2 = M_sizeNow (M_rn m) 2 := (hsz 2 (by omega)).trans (ha.2 2 (by omega)).symm
  exact ⟨n, sp, lo, hi, z0, z1, z2, tr, pl, nl, pt', nt, pb, fl, nld, fb, nbr, nh, nc, ns, no, tu, po, al', si, sm, dn, dw, hcd, ⟨⟨u1.1, ha.1.symm.trans u1.2.1, u1.2.2⟩, u2, u3, ⟨u4.1, s0.trans u4.2.1, u4.2.2⟩, ⟨u5.1, s1.trans u5.2.1, u5.2.2⟩, ⟨u6.1, s2.trans u6.2.1, u6.2.2⟩, u7⟩, hq, hbk, hou, hta, hdn, hdw, hbd⟩
theorem RAs_mZ {m : T_M} {row sz : Nat → Int32} (hsz : ∀ k, k < 3 → sz k = M_number (M_cd m) (3 + k)) (pt : Int32) (ex : T_Mx) (al : T_Ml) (th : Int32) : RAs (mZ m row (M_number (M_cd m) 0) sz pt ex al th) := ⟨rfl, hsz⟩
theorem RRu_W {pr : T_Pg} {m W : T_M} (hcf : RCf pr m) {pa : T_Pa} (hru : ∀ k, k < 8 → Pa_rules pa k = Pg_rules pr k) {sz0 : Nat → Int32} (hsz : ∀ k, k < 3 → sz0 k = M_number (M_cd m) (3 + k)) (hcd : M_cd W = M_cd m) {rule told : Nat} {a1 : Int32} {f5 : Nat → Int32}
    (hA : (a1 = NN told ∧ f5 = sz0 ∧ rule = 0 ∧ told ≤ 40) ∨ (∃ k, k < 3 ∧ a1 = M_number (M_cd m) 0 ∧ f5 = upd sz0 k (NN told) ∧ rule = 3 + k ∧ told ≤ 8)) (h1 : M_spanNow (M_rn W) = a1) (h2 : M_sizeNow (M_rn W) = f5) :
    ∃ n sp lo hi z0 z1 z2 tr, RCd pr m n ∧ RRu (upd (Pa_rules pa) rule (NN told)) W sp lo hi z0 z1 z2 tr := by
  obtain ⟨n, sp, lo, hi, z0, z1, z2, tr, se, hcd0, ⟨c1, c2, c3, c4⟩, ⟨c5, c6, c7⟩, ⟨c8, c9, c10⟩, ⟨c11, c12, c13⟩, ⟨c14, c15, c16⟩, ⟨c17, c18, c19⟩, ⟨c20, c21, c22, c23⟩, -, -⟩ := hcf
  rcases hA with ⟨rfl, rfl, rfl, q4⟩ | ⟨k, hk, rfl, rfl, rfl, q4⟩
  · refine ⟨n, told, lo, hi, z0, z1, z2, tr, hcd0, ⟨upd_at rfl, h1, q4⟩, ⟨?_, ?_, c7⟩, ⟨?_, ?_, c10⟩, ⟨?_, ?_, c13⟩, ⟨?_, ?_, c16⟩, ⟨?_, ?_, c19⟩, ⟨?_, ?_, c22, c23⟩⟩
    · rw [upd_ne (by omega), hru _ (by omega), c5]
    · rw [hcd, c6]
    · rw [upd_ne (by omega), hru _ (by omega), c8]
    · rw [hcd, c9]
    · rw [upd_ne (by omega), hru _ (by omega), c11]
    · rw [h2, hsz 0 (by omega), c12]
    · rw [upd_ne (by omega), hru _ (by omega), c14]
    · rw [h2, hsz 1 (by omega), c15]
    · rw [upd_ne (by omega), hru _ (by omega), c17]
    · rw [h2, hsz 2 (by omega), c18]
    · rw [upd_ne (by omega), hru _ (by omega), c20]
    · rw [hcd, c21]
  · have hz : ∀ j z, j < 3 → Pg_rules pr (3 + j) = NN z → M_number (M_cd m) (3 + j) = NN z → z ≤ 8 → ∃ z', upd (Pa_rules pa) (3 + k) (NN told) (3 + j) = NN z' ∧ M_sizeNow (M_rn W) j = NN z' ∧ z' ≤ 8 := by
      intro j z hj e1 e2 e3
      by_cases q : j = k
      · subst q
        exact ⟨told, upd_at rfl, by rw [h2]; exact upd_at rfl, q4⟩
      · exact ⟨z, by rw [upd_ne (by omega), hru _ (by omega), e1], by rw [h2, upd_ne q, hsz j hj, e2], e3⟩
    obtain ⟨y0, y1, y2, y3⟩ := hz 0 z0 (by omega) c11 c12 c13
    obtain ⟨y4, y5, y6, y7⟩ := hz 1 z1 (by omega) c14 c15 c16
    obtain ⟨y8, y9, y10, y11⟩ := hz 2 z2 (by omega) c17 c18 c19
    refine ⟨n, sp, lo, hi, y0, y4, y8, tr, hcd0, ⟨?_, ?_, c4⟩, ⟨?_, ?_, c7⟩, ⟨?_, ?_, c10⟩, ⟨y1, y2, y3⟩, ⟨y5, y6, y7⟩, ⟨y9, y10, y11⟩, ⟨?_, ?_, c22, c23⟩⟩
    · rw [upd_ne (by omega), hru _ (by omega), c1]
    · rw [h1, c2]
    · rw [upd_ne (by omega), hru _ (by omega), c5]
    · rw [hcd, c6]
    · rw [upd_ne (by omega), hru _ (by omega), c8]
    · rw [hcd, c9]
    · rw [upd_ne (by omega), hru _ (by omega), c20]
    · rw [hcd, c21]
theorem RCf_data {pr : T_Pg} {m : T_M} (h : RCf pr m) : ∀ a, a < 32 → Pg_data pr a = M_data (M_cd m) a := by
  obtain ⟨n, sp, lo, hi, z0, z1, z2, tr, se, -, -, -, -, -, -, -, -, -, r⟩ := h
  exact r
