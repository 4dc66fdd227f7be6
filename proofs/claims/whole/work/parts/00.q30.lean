/-! a point passes -/
theorem keepRow_at (X : Nat → Int32) (j : Nat) : keepRow X j = if 30 ≤ j ∧ j < 54 then X (j - 26) else if 28 ≤ j ∧ j < 30 then X (j - 28) else if 2 ≤ j ∧ j < 4 then NN 0 else X j := by
  simp only [keepRow, cpR, keep2]
  by_cases h1 : 46 ≤ j ∧ j < 54
  · simp (disch := omega) only [upd_at, upd_ne, if_pos, if_neg]; congr 1; omega
  · by_cases h2 : 30 ≤ j ∧ j < 46
    · simp (disch := omega) only [upd_at, upd_ne, if_pos, if_neg]; congr 1; omega
    · simp (disch := omega) only [upd_at, upd_ne, if_pos, if_neg]
theorem emp_at (X : Nat → Int32) (j : Nat) : emp X j = if j = 86 ∨ j = 103 ∨ j = 112 ∨ j = 113 then NN 0 else X j := by
  simp only [emp]
  by_cases h : j = 86 ∨ j = 103 ∨ j = 112 ∨ j = 113
  · rw [if_pos h]
    rcases h with h | h | h | h <;> subst h <;> simp (disch := omega) only [upd_at, upd_ne, if_pos, if_neg]
  · simp (disch := omega) only [upd_at, upd_ne, if_pos, if_neg]
theorem C_isHalted {st : T_St} {pr : T_Pg} {pl c : Nat} (hp : pl < 64) (hc : c ≤ 17) (h1 : St_place st = NN pl) (h2 : Pg_code pr pl = NN c) : f_St_isHalted st pr = some (NN (if c = 0 then 1 else 0)) := by
  unfold f_St_isHalted
  by_cases q : c = 0
  · repeat first | (with_reducible refine s_nmj1 ?_) | (with_reducible refine s_nmj2 ?_) | ((with_reducible refine s_nm ?_); intro y_ hy_; (try simp (disch := omega) only [n_lit, n_add, n_mul, n_sub, n_tn, n_ltT, n_ltF, n_leT, n_leF, n_eqT, n_eqF, n_div, n_ixT, n_ixF, n_not, n_md, n_dec, n_and1, n_and3, n_and7, n_and15, n_and31, n_and63, Nat.mod_eq_of_lt, Nat.zero_add, Nat.add_zero, Nat.zero_mul, Nat.sub_zero, not_false_eq_true, not_true_eq_false, upd_at, upd_ne, h1, h2] at hy_); subst hy_) | ((with_reducible refine s_pos ?_ ?_); · simp (disch := omega) only [n_lit, n_add, n_mul, n_sub, n_tn, n_ltT, n_ltF, n_leT, n_leF, n_eqT, n_eqF, n_div, n_ixT, n_ixF, n_not, n_md, n_dec, n_and1, n_and3, n_and7, n_and15, n_and31, n_and63, Nat.mod_eq_of_lt, Nat.zero_add, Nat.add_zero, Nat.zero_mul, Nat.sub_zero, not_false_eq_true, not_true_eq_false, upd_at, upd_ne, h1, h2]) | ((with_reducible refine s_neg ?_ ?_); · simp (disch := omega) only [n_lit, n_add, n_mul, n_sub, n_tn, n_ltT, n_ltF, n_leT, n_leF, n_eqT, n_eqF, n_div, n_ixT, n_ixF, n_not, n_md, n_dec, n_and1, n_and3, n_and7, n_and15, n_and31, n_and63, Nat.mod_eq_of_lt, Nat.zero_add, Nat.add_zero, Nat.zero_mul, Nat.sub_zero, not_false_eq_true, not_true_eq_false, upd_at, upd_ne, h1, h2]) 
    rw [if_pos q]; rfl
  · repeat first | (with_reducible refine s_nmj1 ?_) | (with_reducible refine s_nmj2 ?_) | ((with_reducible refine s_nm ?_); intro y_ hy_; (try simp (disch := omega) only [n_lit, n_add, n_mul, n_sub, n_tn, n_ltT, n_ltF, n_leT, n_leF, n_eqT, n_eqF, n_div, n_ixT, n_ixF, n_not, n_md, n_dec, n_and1, n_and3, n_and7, n_and15, n_and31, n_and63, Nat.mod_eq_of_lt, Nat.zero_add, Nat.add_zero, Nat.zero_mul, Nat.sub_zero, not_false_eq_true, not_true_eq_false, upd_at, upd_ne, h1, h2] at hy_); subst hy_) | ((with_reducible refine s_pos ?_ ?_); · simp (disch := omega) only [n_lit, n_add, n_mul, n_sub, n_tn, n_ltT, n_ltF, n_leT, n_leF, n_eqT, n_eqF, n_div, n_ixT, n_ixF, n_not, n_md, n_dec, n_and1, n_and3, n_and7, n_and15, n_and31, n_and63, Nat.mod_eq_of_lt, Nat.zero_add, Nat.add_zero, Nat.zero_mul, Nat.sub_zero, not_false_eq_true, not_true_eq_false, upd_at, upd_ne, h1, h2]) | ((with_reducible refine s_neg ?_ ?_); · simp (disch := omega) only [n_lit, n_add, n_mul, n_sub, n_tn, n_ltT, n_ltF, n_leT, n_leF, n_eqT, n_eqF, n_div, n_ixT, n_ixF, n_not, n_md, n_dec, n_and1, n_and3, n_and7, n_and15, n_and31, n_and63, Nat.mod_eq_of_lt, Nat.zero_add, Nat.add_zero, Nat.zero_mul, Nat.sub_zero, not_false_eq_true, not_true_eq_false, upd_at, upd_ne, h1, h2]) 
    rw [if_neg q]; rfl
theorem code_at {pr : T_Pg} {v : T_M} {n pl : Nat} (h : RCd pr v n) (hp : pl < 64) : ∃ c, c ≤ 17 ∧ Pg_code pr pl = NN c := by
  obtain ⟨-, -, -, h0, h1⟩ := h
  by_cases q : n ≤ pl
  · exact ⟨0, by omega, h0 pl q hp⟩
  · obtain ⟨c, a, b, d, hI, i1, -⟩ := h1 pl (by omega)
    exact ⟨c, hI.1, i1⟩
set_option maxHeartbeats 4000000 in
theorem sim_pass {pa : T_Pa} {pr : T_Pg} {v : T_M} {n pl nl pt fl fb nh pb ns no tu po al si sm : Nat} (hcd : RCd pr v n) (h : RTQ (Pa_leader pa) (Pa_trailer pa) (Pa_queues pa) (M_s (M_rn v)) pl nl pt nl fl 0 fb 0 nh nh) (hA : wA (M_s (M_rn v)))
    (hB : RBk (Pa_point pa) (M_s (M_rn v)) pb) (hO : ROu (Pa_outside pa) (M_s (M_rn v)) ns no) (hT : RTa (Pa_tally pa) (M_s (M_rn v)) tu po al si sm) (hbd : ns + no + 8 < 1000000000) (h226 : M_s (M_rn v) 226 = NN 0) :
    ∃ ld tr pt' q ou ta dn row ns' no', f_Pa_passPoint pa pr = some (Pa_rules pa, ld, tr, pt', q, ou, ta, NN dn, Pa_down pa) ∧ f_M_passes v = some (mS v row) ∧ RTQ ld tr q row pl 0 pl 0 0 0 0 0 0 0 ∧ RBk pt' row pl ∧ ROu ou row ns' no' ∧ ns' + no' = ns + no + nh ∧
      RTa ta row tu (po + 1) al 0 sm ∧ row 226 = NN dn ∧ dn ≤ 1 ∧ row 227 = M_s (M_rn v) 227 ∧ row 2 = NN 0 ∧ row 3 = NN 0 := by
  obtain ⟨S, hS⟩ : ∃ S, S = M_s (M_rn v) := ⟨_, rfl⟩
  rw [← hS] at h hA hB hO hT h226
  obtain ⟨hL, hTr, hLd, hBr, hHe, hle⟩ := h
  obtain ⟨⟨q1, q2, q3⟩, ⟨q4, q5, q6⟩, q7, q8⟩ := id hHe
  obtain ⟨A, hAdef⟩ : ∃ A : Nat → Nat, A = fun k => (S (114 + k)).toNatClampNeg := ⟨_, rfl⟩
  have hAk : ∀ k, k < nh → S (114 + k) = NN (A k) ∧ A k < 64 := by
    intro k hk
    obtain ⟨-, -, a, ha, e⟩ := q7 k hk
    rw [hAdef]
    show S (114 + k) = NN (S (114 + k)).toNatClampNeg ∧ (S (114 + k)).toNatClampNeg < 64
    rw [e, n_tn (by omega)]; exact ⟨rfl, ha⟩
  obtain ⟨o1, ⟨o2, o3, o4⟩, ⟨o5, o6, o7⟩, o8, o9, o10, o11, o12⟩ := id hO
  have hok : lvOk S := ⟨min (ns + no) 16, min no 40, by omega, by omega, o11, o8⟩
  obtain ⟨⟨t1, t2⟩, ⟨t3, t4⟩, ⟨t5, t6⟩, ⟨t7, t8⟩, ⟨t9, t10⟩, ⟨ga, t11, t12, t13⟩, t14, t15, t16, t17⟩ := hT
  obtain ⟨⟨a1, a2, a3⟩, ⟨b1, b2, b3⟩, c1, c2, c3, c4, c5⟩ := id hL
  obtain ⟨⟨d1, d2, d3⟩, ⟨e1, e2, e3⟩, g1, g2, g3, g4, g5⟩ := id hTr
  obtain ⟨w1, w2, w3⟩ := hA
  have hpt : pt = pl := n_inj (by omega) (by omega) (d2.symm.trans (w1.symm.trans a2))
  subst hpt
  obtain ⟨c, hc17, hcode⟩ := code_at hcd a3
  obtain ⟨r0, hr0⟩ : ∃ r0, r0 = upd S 220 (S 220 + NN 1) := ⟨_, rfl⟩
  have hk0 : lvOk r0 := by
    obtain ⟨m, o, x1, x2, x3, x4⟩ := hok
    exact ⟨m, o, x1, x2, by rw [hr0]; simp (disch := omega) only [upd_at, upd_ne, if_pos, if_neg, x3], by rw [hr0]; simp (disch := omega) only [upd_at, upd_ne, if_pos, if_neg, x4]⟩
  have hO0 : ROu (Pa_outside pa) r0 ns no := by
    refine ⟨fun a ha => ?_, ⟨o2, ?_, o4⟩, ⟨o5, ?_, o7⟩, ?_, fun k hk => ?_, ?_, ?_, fun k hk => ?_⟩
    · rw [hr0, upd_ne (by omega)]; exact o1 a ha
    · rw [hr0, upd_ne (by omega)]; exact o3
    · rw [hr0, upd_ne (by omega)]; exact o6
    · rw [hr0, upd_ne (by omega)]; exact o8
    · rw [hr0, upd_ne (by omega)]; exact o9 k hk
    · rw [hr0, upd_ne (by omega)]; exact o10
    · rw [hr0, upd_ne (by omega)]; exact o11
    · rw [hr0, upd_ne (by omega), upd_ne (by omega), upd_ne (by omega)]; exact o12 k hk
  have hX : ∀ j, (j < 146 ∨ (218 < j ∧ j < 224) ∨ (225 < j ∧ j < 232) ∨ (232 < j ∧ j < 265)) → j ≠ 220 → mLv r0 A nh j = S j := fun j hj hj2 => by rw [mLv_ne hk0 hj nh, hr0, upd_ne hj2]
  -- what leaves, in the class
  have hq8 : ∀ k : T_Ou → Option T_Pa, ∃ ou, f_Pa_passPoint_L42 pa (NN (po + 1)) k LF 0 (Pa_outside pa) = k ou ∧ ∃ ns' no', ROu ou (mLv r0 A nh) ns' no' ∧ ns' + no' = ns + no + nh := by
    intro k
    obtain ⟨ou, e, h⟩ := loop_from (f_Pa_passPoint_L42 pa (NN (po + 1)) k) k (fun x o => ∃ ns' no', ROu o (mLv r0 A x) ns' no' ∧ ns' + no' = ns + no + x) 0 nh (n := LF) (s := Pa_outside pa)
      (by
        intro n x o hx0 hx hI
        obtain ⟨ns', no', hR, hsum⟩ := hI
        obtain ⟨y1, y2⟩ := hAk x hx
        obtain ⟨z1, z2, -⟩ := q7 x hx
        have eR := C_receive (o := o) (w := Qu_heldWord (Pa_queues pa) x) (pt := NN (po + 1)) y2 hR.2.1.1 hR.2.2.1.1 (by omega) (by omega)
        have y3 : Qu_heldAddress (Pa_queues pa) x = NN (A x) := z1.symm.trans y1
        have hN := ROu_recv (w := Qu_heldWord (Pa_queues pa) x) hR y2 (by omega)
        have e220 : mLv r0 A x 220 = NN (po + 1) := by rw [mLv_ne hk0 (by omega) x, hr0, upd_at rfl, t4, n_add]
        rw [e220] at hN
        have e122 : r0 (122 + x) = Qu_heldWord (Pa_queues pa) x := by rw [hr0, upd_ne (by omega)]; exact z2
        obtain ⟨o', eR', hN'⟩ : ∃ o', f_Ou_receive o (NN (A x)) (Qu_heldWord (Pa_queues pa) x) (NN (po + 1)) = some o' ∧ ROu o' (mLv r0 A (x + 1)) (if A x < 32 then ns' + 1 else ns') (if A x < 32 then no' else no' + 1) :=
          ⟨_, eR, by simp only [mLv]; rw [e122]; exact hN⟩
        refine ⟨o', ?_, (if A x < 32 then ns' + 1 else ns'), (if A x < 32 then no' else no' + 1), hN', by split <;> omega⟩
        simp only [f_Pa_passPoint_L42]
        repeat first | (with_reducible refine s_nmj1 ?_) | (with_reducible refine s_nmj2 ?_) | ((with_reducible refine s_nm ?_); intro y_ hy_; (try simp (disch := omega) only [n_lit, n_add, n_mul, n_sub, n_tn, n_ltT, n_ltF, n_leT, n_leF, n_eqT, n_eqF, n_div, n_ixT, n_ixF, n_not, n_md, n_dec, n_and1, n_and3, n_and7, n_and15, n_and31, n_and63, Nat.mod_eq_of_lt, Nat.zero_add, Nat.add_zero, Nat.zero_mul, Nat.sub_zero, not_false_eq_true, not_true_eq_false, upd_at, upd_ne, q1, y3] at hy_); subst hy_) | ((with_reducible refine s_pos ?_ ?_); · simp (disch := omega) only [n_lit, n_add, n_mul, n_sub, n_tn, n_ltT, n_ltF, n_leT, n_leF, n_eqT, n_eqF, n_div, n_ixT, n_ixF, n_not, n_md, n_dec, n_and1, n_and3, n_and7, n_and15, n_and31, n_and63, Nat.mod_eq_of_lt, Nat.zero_add, Nat.add_zero, Nat.zero_mul, Nat.sub_zero, not_false_eq_true, not_true_eq_false, upd_at, upd_ne, q1, y3]) | ((with_reducible refine s_neg ?_ ?_); · simp (disch := omega) only [n_lit, n_add, n_mul, n_sub, n_tn, n_ltT, n_ltF, n_leT, n_leF, n_eqT, n_eqF, n_div, n_ixT, n_ixF, n_not, n_md, n_dec, n_and1, n_and3, n_and7, n_and15, n_and31, n_and63, Nat.mod_eq_of_lt, Nat.zero_add, Nat.add_zero, Nat.zero_mul, Nat.sub_zero, not_false_eq_true, not_true_eq_false, upd_at, upd_ne, q1, y3])  | ((with_reducible refine s_bd (Eq.trans ?_ eR') ?_); · simp (disch := omega) only [n_lit, n_add, n_mul, n_sub, n_tn, n_ltT, n_ltF, n_leT, n_leF, n_eqT, n_eqF, n_div, n_ixT, n_ixF, n_not, n_md, n_dec, n_and1, n_and3, n_and7, n_and15, n_and31, n_and63, Nat.mod_eq_of_lt, Nat.zero_add, Nat.add_zero, Nat.zero_mul, Nat.sub_zero, not_false_eq_true, not_true_eq_false, upd_at, upd_ne, y3])
        rfl)
      (by
        intro n o _
        simp only [f_Pa_passPoint_L42]
        repeat first | (with_reducible refine s_nmj1 ?_) | (with_reducible refine s_nmj2 ?_) | ((with_reducible refine s_nm ?_); intro y_ hy_; (try simp (disch := omega) only [n_lit, n_add, n_mul, n_sub, n_tn, n_ltT, n_ltF, n_leT, n_leF, n_eqT, n_eqF, n_div, n_ixT, n_ixF, n_not, n_md, n_dec, n_and1, n_and3, n_and7, n_and15, n_and31, n_and63, Nat.mod_eq_of_lt, Nat.zero_add, Nat.add_zero, Nat.zero_mul, Nat.sub_zero, not_false_eq_true, not_true_eq_false, upd_at, upd_ne, q1] at hy_); subst hy_) | ((with_reducible refine s_pos ?_ ?_); · simp (disch := omega) only [n_lit, n_add, n_mul, n_sub, n_tn, n_ltT, n_ltF, n_leT, n_leF, n_eqT, n_eqF, n_div, n_ixT, n_ixF, n_not, n_md, n_dec, n_and1, n_and3, n_and7, n_and15, n_and31, n_and63, Nat.mod_eq_of_lt, Nat.zero_add, Nat.add_zero, Nat.zero_mul, Nat.sub_zero, not_false_eq_true, not_true_eq_false, upd_at, upd_ne, q1]) | ((with_reducible refine s_neg ?_ ?_); · simp (disch := omega) only [n_lit, n_add, n_mul, n_sub, n_tn, n_ltT, n_ltF, n_leT, n_leF, n_eqT, n_eqF, n_div, n_ixT, n_ixF, n_not, n_md, n_dec, n_and1, n_and3, n_and7, n_and15, n_and31, n_and63, Nat.mod_eq_of_lt, Nat.zero_add, Nat.add_zero, Nat.zero_mul, Nat.sub_zero, not_false_eq_true, not_true_eq_false, upd_at, upd_ne, q1]) 
        rfl) (by omega) (lf_big (by omega)) ⟨ns, no, hO0, by omega⟩
    exact ⟨ou, e, h⟩
  obtain ⟨pr0, pf0, eSA, psr, psf⟩ := C_standAs (Pa_point pa) (Pa_leader pa)
  have eH := C_isHalted (st := (St_registers (Pa_leader pa), St_floats (Pa_leader pa), St_stuckMask (Pa_leader pa), St_stuckOnes (Pa_leader pa), St_place (Pa_leader pa), (0 : Int32))) (pr := pr) a3 hc17 a1 hcode
  obtain ⟨k, hk⟩ : ∃ k : T_Ou → Option T_Pa, k = (fun (v5 : T_Ou) => (bd (f_St_standAs (Pa_point pa) (Pa_leader pa)) fun (v13 : T_St) => (bd (f_Qu_clear (Pa_queues pa)) fun (v15 : T_Qu) => (bd (f_St_isHalted ((St_registers (Pa_leader pa)), (St_floats (Pa_leader pa)), (St_stuckMask (Pa_leader pa)), (St_stuckOnes (Pa_leader pa)), (St_place (Pa_leader pa)), (0 : Int32)) pr) fun (r17 : Int32) => (if isB r17 then (some ((Pa_rules pa), ((St_registers (Pa_leader pa)), (St_floats (Pa_leader pa)), (St_stuckMask (Pa_leader pa)), (St_stuckOnes (Pa_leader pa)), (St_place (Pa_leader pa)), (0 : Int32)), ((St_registers (Pa_trailer pa)), (St_floats (Pa_trailer pa)), (St_stuckMask (Pa_trailer pa)), (St_stuckOnes (Pa_trailer pa)), (St_place (Pa_trailer pa)), (0 : Int32)), v13, v15, v5, ((Ta_alarmSort (Pa_tally pa)), (Ta_alarmTurn (Pa_tally pa)), (Ta_alarmLeaderSteps (Pa_tally pa)), (Ta_alarmTrailerSteps (Pa_tally pa)), (Ta_turns (Pa_tally pa)), NN (po + 1), (Ta_alarms (Pa_tally pa)), (0 : Int32), (Ta_greatestAhead (Pa_tally pa)), (Ta_aheadSum (Pa_tally pa)), (Ta_leaderTurns (Pa_tally pa)), (Ta_trailerTurns (Pa_tally pa)), (Ta_comparedSteps (Pa_tally pa) + NN nl)), r17, (Pa_down pa))) else none))))) := ⟨_, rfl⟩
  obtain ⟨ou, eL, ns', no', hOu, hsum⟩ := hq8 k
  have eHM : ∀ r : Nat → Int32, r 0 = NN pt → r 1 = NN pt → f_M_isHalted (mS v r) 0 = some (NN (if c = 0 then 1 else 0)) ∧ f_M_isHalted (mS v r) 1 = some (NN (if c = 0 then 1 else 0)) := fun r x0 x1 =>
    ⟨M_isHalted (w := 0) (v := mS v r) (by decide) hcd a3 hcode hc17 x0, M_isHalted (w := 1) (v := mS v r) (by decide) hcd a3 hcode hc17 x1⟩
  obtain ⟨X, hXd⟩ : ∃ X, X = upd (upd (mLv r0 A nh) 231 (S 231 + S 2)) 222 (NN 0) := ⟨_, rfl⟩
  have hP : ∀ j, paRow S A nh j = if j = 86 ∨ j = 103 ∨ j = 112 ∨ j = 113 then NN 0 else if 30 ≤ j ∧ j < 54 then X (j - 26) else if 28 ≤ j ∧ j < 30 then X (j - 28) else if 2 ≤ j ∧ j < 4 then NN 0 else X j := by
    intro j; rw [hXd, hr0]; simp only [paRow]; rw [emp_at, keepRow_at]
  have hX2 : ∀ j, (j < 146 ∨ (218 < j ∧ j < 224) ∨ (225 < j ∧ j < 232) ∨ (232 < j ∧ j < 265)) → j ≠ 220 → j ≠ 222 → j ≠ 231 → X j = S j := fun j x1 x2 x3 x4 => by
    rw [hXd, upd_ne x3, upd_ne x4, hX j x1 x2]
  have hX3 : ∀ j, j ≠ 222 → j ≠ 231 → X j = mLv r0 A nh j := fun j x3 x4 => by rw [hXd, upd_ne x3, upd_ne x4]
  have p0 : paRow S A nh 0 = NN pt := by rw [hP]; simp (disch := omega) only [upd_at, upd_ne, if_pos, if_neg]; rw [hX2 _ (by omega) (by omega) (by omega) (by omega)]; exact a2
  have p1 : paRow S A nh 1 = NN pt := by rw [hP]; simp (disch := omega) only [upd_at, upd_ne, if_pos, if_neg]; rw [hX2 _ (by omega) (by omega) (by omega) (by omega)]; exact d2
  have eHM0 := eHM _ p0 p1
  have eP : f_M_passes v = some (mS v (if c = 0 then upd (paRow S A nh) 226 (NN 1) else paRow S A nh)) := by
    have := M_passes v nh A q3 (by rw [← hS]; exact q2) (by rw [← hS]; exact hAk) (by rw [← hS]; exact hok) (h0 := NN (if c = 0 then 1 else 0)) (h1 := NN (if c = 0 then 1 else 0)) (by rw [← hS]; exact eHM0.1) (by rw [← hS]; exact eHM0.2)
    rw [this, ← hS]
    by_cases q : c = 0
    · rw [if_pos q, if_pos q, if_neg (by simp (disch := omega) only [n_eqF, not_false_eq_true]), if_neg (by simp (disch := omega) only [n_eqF, not_false_eq_true])]
    · rw [if_neg q, if_neg q, if_pos rfl]
  obtain ⟨row, hrow⟩ : ∃ row, row = if c = 0 then upd (paRow S A nh) 226 (NN 1) else paRow S A nh := ⟨_, rfl⟩
  rw [← hrow] at eP
  have hR : ∀ j, j ≠ 226 → row j = paRow S A nh j := by
    intro j hj; rw [hrow]; split
    · rw [upd_ne hj]
    · rfl
  have hlow : ∀ j, j < 28 → ¬ (2 ≤ j ∧ j < 4) → row j = S j := fun j h1 h2 => by rw [hR _ (by omega), hP]; simp (disch := omega) only [upd_at, upd_ne, if_pos, if_neg]; exact hX2 _ (by omega) (by omega) (by omega) (by omega)
  have hmid : ∀ j, 54 ≤ j → j < 146 → ¬ (j = 86 ∨ j = 103 ∨ j = 112 ∨ j = 113) → row j = S j := fun j h1 h2 h3 => by rw [hR _ (by omega), hP]; simp (disch := omega) only [upd_at, upd_ne, if_pos, if_neg]; exact hX2 _ (by omega) (by omega) (by omega) (by omega)
  have hz : ∀ j, (j = 86 ∨ j = 103 ∨ j = 112 ∨ j = 113) → row j = NN 0 := fun j h1 => by rw [hR _ (by omega), hP, if_pos h1]
  have hst : ∀ j, 2 ≤ j → j < 4 → row j = NN 0 := fun j h1 h2 => by rw [hR _ (by omega), hP]; simp (disch := omega) only [upd_at, upd_ne, if_pos, if_neg]
  have hbk : ∀ j, 30 ≤ j → j < 54 → row j = S (j - 26) := fun j h1 h2 => by rw [hR _ (by omega), hP]; simp (disch := omega) only [upd_at, upd_ne, if_pos, if_neg]; exact hX2 _ (by omega) (by omega) (by omega) (by omega)
  have hbp : ∀ j, 28 ≤ j → j < 30 → row j = S (j - 28) := fun j h1 h2 => by rw [hR _ (by omega), hP]; simp (disch := omega) only [upd_at, upd_ne, if_pos, if_neg]; exact hX2 _ (by omega) (by omega) (by omega) (by omega)
  have hhi : ∀ j, 146 ≤ j → j ≠ 226 → j ≠ 222 → j ≠ 231 → row j = mLv r0 A nh j := fun j h1 h2 h3 h4 => by rw [hR _ h2, hP]; simp (disch := omega) only [upd_at, upd_ne, if_pos, if_neg]; exact hX3 _ h3 h4
  have hhi2 : ∀ j, ((218 < j ∧ j < 224) ∨ (225 < j ∧ j < 232) ∨ (232 < j ∧ j < 265)) → j ≠ 220 → j ≠ 226 → j ≠ 222 → j ≠ 231 → row j = S j := fun j h1 h0 h2 h3 h4 => by rw [hhi j (by omega) h2 h3 h4]; exact hX j (by omega) h0
  have m0 : ∀ k, k < 8 → St_stuckMask (Pa_point pa) k = NN 0 ∧ St_stuckOnes (Pa_point pa) k = NN 0 := hB.2.2.2.2.2.2
  have psr2 : ∀ k, k < 8 → pr0 k = St_registers (Pa_leader pa) k := fun k hk => by
    rw [psr k hk, (m0 k hk).1, (m0 k hk).2]
    show (St_registers (Pa_leader pa) k &&& ~~~(0 : Int32)) ||| (0 : Int32) = _
    rw [Int32.not_zero, Int32.and_neg_one, Int32.or_zero]
  have t16' : Ta_comparedSteps (Pa_tally pa) + NN nl = row 231 := by
    rw [hR _ (by omega), hP]; simp (disch := omega) only [upd_at, upd_ne, if_pos, if_neg]; rw [hXd]; simp (disch := omega) only [upd_at, upd_ne, if_pos, if_neg]; rw [t16, show S 2 = NN nl from b2]
  refine ⟨(St_registers (Pa_leader pa), St_floats (Pa_leader pa), St_stuckMask (Pa_leader pa), St_stuckOnes (Pa_leader pa), St_place (Pa_leader pa), NN 0), (St_registers (Pa_trailer pa), St_floats (Pa_trailer pa), St_stuckMask (Pa_trailer pa), St_stuckOnes (Pa_trailer pa), St_place (Pa_trailer pa), NN 0),
    (pr0, pf0, St_stuckMask (Pa_point pa), St_stuckOnes (Pa_point pa), St_place (Pa_leader pa), NN 0), (Qu_loadAddress (Pa_queues pa), Qu_loadWord (Pa_queues pa), Qu_branch (Pa_queues pa), Qu_heldAddress (Pa_queues pa), Qu_heldWord (Pa_queues pa), Qu_besideAddress (Pa_queues pa), Qu_besideWord (Pa_queues pa), NN 0, NN 0, NN 0, NN 0, NN 0, NN 0), ou, ((Ta_alarmSort (Pa_tally pa)), (Ta_alarmTurn (Pa_tally pa)), (Ta_alarmLeaderSteps (Pa_tally pa)), (Ta_alarmTrailerSteps (Pa_tally pa)), (Ta_turns (Pa_tally pa)), NN (po + 1), (Ta_alarms (Pa_tally pa)), NN 0, (Ta_greatestAhead (Pa_tally pa)), (Ta_aheadSum (Pa_tally pa)), (Ta_leaderTurns (Pa_tally pa)), (Ta_trailerTurns (Pa_tally pa)), (Ta_comparedSteps (Pa_tally pa) + NN nl)),
    if c = 0 then 1 else 0, row, ns', no', ?_, eP, ⟨?_, ?_, ?_, ?_, ?_, Nat.le_refl _⟩, ?_, ?_, hsum, ?_, ?_, by split <;> omega, by rw [← hS]; exact hhi2 227 (by omega) (by omega) (by omega) (by omega) (by omega), hst _ (by omega) (by omega), hst _ (by omega) (by omega)⟩
  · unfold f_Pa_passPoint
    repeat first | (with_reducible refine s_nmj1 ?_) | (with_reducible refine s_nmj2 ?_) | ((with_reducible refine s_nm ?_); intro y_ hy_; (try simp (disch := omega) only [n_lit, n_add, n_mul, n_sub, n_tn, n_ltT, n_ltF, n_leT, n_leF, n_eqT, n_eqF, n_div, n_ixT, n_ixF, n_not, n_md, n_dec, n_and1, n_and3, n_and7, n_and15, n_and31, n_and63, Nat.mod_eq_of_lt, Nat.zero_add, Nat.add_zero, Nat.zero_mul, Nat.sub_zero, not_false_eq_true, not_true_eq_false, upd_at, upd_ne, t3, b1] at hy_); subst hy_) | ((with_reducible refine s_pos ?_ ?_); · simp (disch := omega) only [n_lit, n_add, n_mul, n_sub, n_tn, n_ltT, n_ltF, n_leT, n_leF, n_eqT, n_eqF, n_div, n_ixT, n_ixF, n_not, n_md, n_dec, n_and1, n_and3, n_and7, n_and15, n_and31, n_and63, Nat.mod_eq_of_lt, Nat.zero_add, Nat.add_zero, Nat.zero_mul, Nat.sub_zero, not_false_eq_true, not_true_eq_false, upd_at, upd_ne, t3, b1]) | ((with_reducible refine s_neg ?_ ?_); · simp (disch := omega) only [n_lit, n_add, n_mul, n_sub, n_tn, n_ltT, n_ltF, n_leT, n_leF, n_eqT, n_eqF, n_div, n_ixT, n_ixF, n_not, n_md, n_dec, n_and1, n_and3, n_and7, n_and15, n_and31, n_and63, Nat.mod_eq_of_lt, Nat.zero_add, Nat.add_zero, Nat.zero_mul, Nat.sub_zero, not_false_eq_true, not_true_eq_false, upd_at, upd_ne, t3, b1]) 
    rw [← hk, eL, hk]
    by_cases q : c = 0
    · rw [if_pos q] at eH ⊢
      repeat first | (with_reducible refine s_nmj1 ?_) | (with_reducible refine s_nmj2 ?_) | ((with_reducible refine s_nm ?_); intro y_ hy_; (try simp (disch := omega) only [n_lit, n_add, n_mul, n_sub, n_tn, n_ltT, n_ltF, n_leT, n_leF, n_eqT, n_eqF, n_div, n_ixT, n_ixF, n_not, n_md, n_dec, n_and1, n_and3, n_and7, n_and15, n_and31, n_and63, Nat.mod_eq_of_lt, Nat.zero_add, Nat.add_zero, Nat.zero_mul, Nat.sub_zero, not_false_eq_true, not_true_eq_false, upd_at, upd_ne] at hy_); subst hy_) | ((with_reducible refine s_pos ?_ ?_); · simp (disch := omega) only [n_lit, n_add, n_mul, n_sub, n_tn, n_ltT, n_ltF, n_leT, n_leF, n_eqT, n_eqF, n_div, n_ixT, n_ixF, n_not, n_md, n_dec, n_and1, n_and3, n_and7, n_and15, n_and31, n_and63, Nat.mod_eq_of_lt, Nat.zero_add, Nat.add_zero, Nat.zero_mul, Nat.sub_zero, not_false_eq_true, not_true_eq_false, upd_at, upd_ne]) | ((with_reducible refine s_neg ?_ ?_); · simp (disch := omega) only [n_lit, n_add, n_mul, n_sub, n_tn, n_ltT, n_ltF, n_leT, n_leF, n_eqT, n_eqF, n_div, n_ixT, n_ixF, n_not, n_md, n_dec, n_and1, n_and3, n_and7, n_and15, n_and31, n_and63, Nat.mod_eq_of_lt, Nat.zero_add, Nat.add_zero, Nat.zero_mul, Nat.sub_zero, not_false_eq_true, not_true_eq_false, upd_at, upd_ne])  | (with_reducible refine s_bd eSA ?_) | (with_reducible refine s_bd eH ?_) | (with_reducible refine s_bd (show f_Qu_clear _ = some _ from rfl) ?_) | ((with_reducible refine s_pos ?_ ?_); · exact Or.inr rfl)
      rfl
    · rw [if_neg q] at eH ⊢
      repeat first | (with_reducible refine s_nmj1 ?_) | (with_reducible refine s_nmj2 ?_) | ((with_reducible refine s_nm ?_); intro y_ hy_; (try simp (disch := omega) only [n_lit, n_add, n_mul, n_sub, n_tn, n_ltT, n_ltF, n_leT, n_leF, n_eqT, n_eqF, n_div, n_ixT, n_ixF, n_not, n_md, n_dec, n_and1, n_and3, n_and7, n_and15, n_and31, n_and63, Nat.mod_eq_of_lt, Nat.zero_add, Nat.add_zero, Nat.zero_mul, Nat.sub_zero, not_false_eq_true, not_true_eq_false, upd_at, upd_ne] at hy_); subst hy_) | ((with_reducible refine s_pos ?_ ?_); · simp (disch := omega) only [n_lit, n_add, n_mul, n_sub, n_tn, n_ltT, n_ltF, n_leT, n_leF, n_eqT, n_eqF, n_div, n_ixT, n_ixF, n_not, n_md, n_dec, n_and1, n_and3, n_and7, n_and15, n_and31, n_and63, Nat.mod_eq_of_lt, Nat.zero_add, Nat.add_zero, Nat.zero_mul, Nat.sub_zero, not_false_eq_true, not_true_eq_false, upd_at, upd_ne]) | ((with_reducible refine s_neg ?_ ?_); · simp (disch := omega) only [n_lit, n_add, n_mul, n_sub, n_tn, n_ltT, n_ltF, n_leT, n_leF, n_eqT, n_eqF, n_div, n_ixT, n_ixF, n_not, n_md, n_dec, n_and1, n_and3, n_and7, n_and15, n_and31, n_and63, Nat.mod_eq_of_lt, Nat.zero_add, Nat.add_zero, Nat.zero_mul, Nat.sub_zero, not_false_eq_true, not_true_eq_false, upd_at, upd_ne])  | (with_reducible refine s_bd eSA ?_) | (with_reducible refine s_bd eH ?_) | (with_reducible refine s_bd (show f_Qu_clear _ = some _ from rfl) ?_) | ((with_reducible refine s_pos ?_ ?_); · exact Or.inl rfl)
      rfl
  · exact ⟨⟨a1, (hlow _ (by omega) (by omega)).trans a2, a3⟩, ⟨rfl, hst _ (by omega) (by omega), by omega⟩, fun k hk => (hlow _ (by omega) (by omega)).trans (c1 k hk), fun k hk => (hlow _ (by omega) (by omega)).trans (c2 k hk), fun k hk => (hmid _ (by omega) (by omega) (by omega)).trans (c3 k hk), fun k hk => (hmid _ (by omega) (by omega) (by omega)).trans (c4 k hk), c5⟩
  · exact ⟨⟨d1, (hlow _ (by omega) (by omega)).trans d2, d3⟩, ⟨rfl, hst _ (by omega) (by omega), by omega⟩, fun k hk => (hlow _ (by omega) (by omega)).trans (g1 k hk), fun k hk => (hlow _ (by omega) (by omega)).trans (g2 k hk), fun k hk => (hmid _ (by omega) (by omega) (by omega)).trans (g3 k hk), fun k hk => (hmid _ (by omega) (by omega) (by omega)).trans (g4 k hk), g5⟩
  · exact ⟨⟨rfl, by omega⟩, ⟨rfl, hz _ (by omega), by omega⟩, fun k hk => absurd hk (by omega)⟩
  · exact ⟨⟨rfl, by omega⟩, ⟨rfl, hz _ (by omega), by omega⟩, fun k hk => absurd hk (by omega)⟩
  · exact ⟨⟨rfl, hz _ (by omega), by omega⟩, ⟨rfl, hz _ (by omega), by omega⟩, fun k hk => absurd hk (by omega), fun k hk => absurd hk (by omega)⟩
  · refine ⟨a1, a3, (hbp _ (by omega) (by omega)).trans a2, (hbp _ (by omega) (by omega)).trans d2, fun k hk => ⟨?_, ?_⟩, fun k hk => ⟨?_, ?_⟩, m0⟩
    · rw [hbk _ (by omega) (by omega), show 30 + k - 26 = 4 + 8 * 0 + k by omega, c1 k hk]; exact (psr2 k hk).symm
    · rw [hbk _ (by omega) (by omega), show 38 + k - 26 = 12 + k by omega, ← w2 k hk, show 4 + k = 4 + 8 * 0 + k by omega, c1 k hk]; exact (psr2 k hk).symm
    · rw [hbk _ (by omega) (by omega), show 46 + k - 26 = 20 + 4 * 0 + k by omega, c2 k hk]; exact (psf k hk).symm
    · rw [hbk _ (by omega) (by omega), show 50 + k - 26 = 24 + k by omega, ← w3 k hk, show 20 + k = 20 + 4 * 0 + k by omega, c2 k hk]; exact (psf k hk).symm
  · obtain ⟨x1, ⟨x2, x3, x4⟩, ⟨x5, x6, x7⟩, x8, x9, x10, x11, x12⟩ := hOu
    refine ⟨fun a ha => ?_, ⟨x2, ?_, x4⟩, ⟨x5, ?_, x7⟩, ?_, fun k hk => ?_, ?_, ?_, fun k hk => ?_⟩
    · rw [hhi _ (by omega) (by omega) (by omega) (by omega)]; exact x1 a ha
    · rw [hhi _ (by omega) (by omega) (by omega) (by omega)]; exact x3
    · rw [hhi _ (by omega) (by omega) (by omega) (by omega)]; exact x6
    · rw [hhi _ (by omega) (by omega) (by omega) (by omega)]; exact x8
    · rw [hhi _ (by omega) (by omega) (by omega) (by omega)]; exact x9 k hk
    · rw [hhi _ (by omega) (by omega) (by omega) (by omega)]; exact x10
    · rw [hhi _ (by omega) (by omega) (by omega) (by omega)]; exact x11
    · rw [hhi _ (by omega) (by omega) (by omega) (by omega), hhi _ (by omega) (by omega) (by omega) (by omega), hhi _ (by omega) (by omega) (by omega) (by omega)]; exact x12 k hk
  · refine ⟨⟨t1, (hhi2 _ (by omega) (by omega) (by omega) (by omega) (by omega)).trans t2⟩, ⟨rfl, ?_⟩, ⟨t5, (hhi2 _ (by omega) (by omega) (by omega) (by omega) (by omega)).trans t6⟩, ⟨rfl, ?_⟩, ⟨t9, (hhi2 _ (by omega) (by omega) (by omega) (by omega) (by omega)).trans t10⟩,
      ⟨ga, t11, t12, (hhi2 _ (by omega) (by omega) (by omega) (by omega) (by omega)).trans t13⟩, t14.trans (hhi2 _ (by omega) (by omega) (by omega) (by omega) (by omega)).symm, t15.trans (hhi2 _ (by omega) (by omega) (by omega) (by omega) (by omega)).symm, t16', fun k hk hk2 => ?_⟩
    · rw [hhi _ (by omega) (by omega) (by omega) (by omega), mLv_ne hk0 (by omega) nh, hr0, upd_at rfl, t4, n_add]
    · rw [hR _ (by omega), hP]; simp (disch := omega) only [upd_at, upd_ne, if_pos, if_neg]; rw [hXd, upd_at rfl]
    · rw [hhi2 _ (by omega) (by omega) (by omega) (by omega) (by omega), hhi2 _ (by omega) (by omega) (by omega) (by omega) (by omega), hhi2 _ (by omega) (by omega) (by omega) (by omega) (by omega), hhi2 _ (by omega) (by omega) (by omega) (by omega) (by omega)]
      exact t17 k hk hk2
  · rw [hrow]
    by_cases q : c = 0
    · rw [if_pos q, if_pos q, upd_at rfl]
    · rw [if_neg q, if_neg q, hP]; simp (disch := omega) only [upd_at, upd_ne, if_pos, if_neg]; rw [hX2 _ (by omega) (by omega) (by omega) (by omega)]; exact h226
