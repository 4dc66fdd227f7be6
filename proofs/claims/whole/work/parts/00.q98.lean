/-! FAULT, NAMED, KEEP, BACK -/
theorem sim_fault {rd : T_Rd} {m : T_M} (hR : RDR rd m) (tt : T_TT) (a1 : Int32) : ∃ r, f_TT_fault tt rd a1 = some r ∧ f_M_fault m a1 = some (r, mT m) := by
  obtain ⟨-, -, -, h1, h2⟩ := hR
  unfold f_TT_fault f_M_fault
  by_cases g : a1 = (0 : Int32)
  · exact ⟨_, if_pos g, (if_pos g).trans (by rw [h1]; rfl)⟩
  · by_cases g2 : a1 = (1 : Int32)
    · exact ⟨_, (if_neg g).trans (if_pos g2), (if_neg g).trans ((if_pos g2).trans (by rw [h2]; rfl))⟩
    · exact ⟨_, (if_neg g).trans (if_neg g2), (if_neg g).trans (if_neg g2)⟩
theorem sim_named {pr : T_Pg} {m : T_M} (h : LBR pr (M_cd m)) (tt : T_TT) (a1 : Int32) : ∃ r, f_TT_named tt pr a1 = some r ∧ f_M_named m a1 = some (r, mT m) := by
  obtain ⟨nc, h1, h2, h3, h4⟩ := h
  have key := LBP (pr := pr) (m := mT m) (nc := nc) (b := 0) h3 (by omega) h1 (fun k hk => by rw [Nat.zero_add]; exact (h4 k hk).1) a1
  unfold f_TT_named f_M_named
  have e9 : (M_number (M_cd m)) (9 : Int32).toNatClampNeg = NN nc := h2
  rw [e9]
  rcases key with ⟨j, j1, j2, j3⟩ | ⟨j2, j3⟩
  · obtain ⟨-, a, a1', a2, a3⟩ := h4 j j1
    rw [a2] at j2
    have j3' : f_M_labelled ((M_tp m), (M_rd m), (M_lf m), (M_cd m), (M_rn m), (M_ex m), (M_im m), (M_al m), (0 : Int32)) (0 : Int32) (NN nc) a1 = some (NN j) := j3
    refine ⟨NN a, s_bd j2 rfl, s_bd j3' ?_⟩
    repeat first | (with_reducible refine s_nmj1 ?_) | (with_reducible refine s_nmj2 ?_) | ((with_reducible refine s_nm ?_); intro y_ hy_; (try simp (disch := omega) only [n_lit, n_add, n_mul, n_sub, n_tn, n_ltT, n_ltF, n_leT, n_leF, n_eqT, n_eqF, n_div, n_ixT, n_ixF, n_not, n_md, n_dec, n_and1, n_and3, n_and7, n_and15, n_and31, n_and63, Nat.mod_eq_of_lt, Nat.zero_add, Nat.add_zero, Nat.zero_mul, Nat.sub_zero, not_false_eq_true, not_true_eq_false, upd_at, upd_ne, a3] at hy_); subst hy_) | ((with_reducible refine s_pos ?_ ?_); · simp (disch := omega) only [n_lit, n_add, n_mul, n_sub, n_tn, n_ltT, n_ltF, n_leT, n_leF, n_eqT, n_eqF, n_div, n_ixT, n_ixF, n_not, n_md, n_dec, n_and1, n_and3, n_and7, n_and15, n_and31, n_and63, Nat.mod_eq_of_lt, Nat.zero_add, Nat.add_zero, Nat.zero_mul, Nat.sub_zero, not_false_eq_true, not_true_eq_false, upd_at, upd_ne, a3]) | ((with_reducible refine s_neg ?_ ?_); · simp (disch := omega) only [n_lit, n_add, n_mul, n_sub, n_tn, n_ltT, n_ltF, n_leT, n_leF, n_eqT, n_eqF, n_div, n_ixT, n_ixF, n_not, n_md, n_dec, n_and1, n_and3, n_and7, n_and15, n_and31, n_and63, Nat.mod_eq_of_lt, Nat.zero_add, Nat.add_zero, Nat.zero_mul, Nat.sub_zero, not_false_eq_true, not_true_eq_false, upd_at, upd_ne, a3])  | (with_reducible refine s_neg (n_m1' (by omega)) ?_)
    rw [n_tn (by omega), a3]
    rfl
  · have j3' : f_M_labelled ((M_tp m), (M_rd m), (M_lf m), (M_cd m), (M_rn m), (M_ex m), (M_im m), (M_al m), (0 : Int32)) (0 : Int32) (NN nc) a1 = some (-1 : Int32) := j3
    exact ⟨-1, s_bd j2 rfl, s_bd j3' (if_pos rfl)⟩
theorem RPa_turns {B : Nat} {pa : T_Pa} {pr : T_Pg} {m : T_M} (h : RPa B pa pr m) : Ta_turns (Pa_tally pa) = M_s (M_rn m) 219 := by
  obtain ⟨n, sp, lo, hi, z0, z1, z2, tr, pl, nl, pt, nt, pb, fl, nld, fb, nbr, nh, nc, ns, no, tu, po, al, si, sm, dn, dw, hcd, hru, hq, hbk, hou, hta, hdn, hdw, hbd⟩ := h
  exact hta.1.1.trans hta.1.2.symm
def mI (m : T_M) (im : Nat → Int32) (f : Int32) : T_M := ((M_tp m), (M_rd m), (M_lf m), (M_cd m), (M_rn m), (M_ex m), (im, f), (M_al m), (0 : Int32))
theorem sim_keep {B : Nat} {pa : T_Pa} {pr : T_Pg} {m : T_M} (h : RPa B pa pr m) (tt : T_TT) (im : T_Pa) : ∃ r im' g, f_TT_keep tt pa im = some (r, NN 1, im') ∧ f_M_keep m = some (r, mI m g (NN 1)) ∧ RPa B im' pr (mS m g) := by
  obtain ⟨im', e1, e2, -, -, -, -, -⟩ := C_copyPa h im
  obtain ⟨g, e3, e4⟩ := M_copies1 (M_s (M_rn m)) (M_image (M_im m))
  refine ⟨Ta_turns (Pa_tally pa), im', g, ?_, ?_, RPa_row e2 e4⟩
  · unfold f_TT_keep
    exact s_bd e1 rfl
  · unfold f_M_keep
    refine s_bd e3 ?_
    rw [RPa_turns h]
    rfl
theorem sim_back0 {m : T_M} (xpa xim : Nat) {tt : T_TT} (pa im : T_Pa) (h : tt = NN 0) (g : M_hasImage (M_im m) = NN 0) : f_TT_back xpa xim tt pa im = some ((-1 : Int32), pa, xpa) ∧ f_M_back m = some ((-1 : Int32), mT m) := by
  constructor
  · unfold f_TT_back
    exact if_pos h
  · unfold f_M_back
    exact if_pos g
theorem sim_back {B : Nat} {pr : T_Pg} {m : T_M} {im : T_Pa} (xpa xim : Nat) {tt : T_TT} (pa : T_Pa) (h : tt = NN 1) (g : M_hasImage (M_im m) = NN 1) (hi : RPa B im pr (mS m (M_image (M_im m)))) :
    ∃ r pa' row, f_TT_back xpa xim tt pa im = some (r, pa', xim) ∧ f_M_back m = some (r, mS (mT m) row) ∧ RPa B pa' pr (mS (mT m) row) := by
  obtain ⟨pa', e1, e2, -, -, -, -, e3⟩ := C_copyPa hi pa
  obtain ⟨row, e4, e5⟩ := M_copies1 (M_image (M_im m)) (M_s (M_rn m))
  have e6' : RPa B pa' pr (mS (mS m (M_image (M_im m))) row) := RPa_row e2 e5
  have e6 : RPa B pa' pr (mS (mT m) row) := e6'
  refine ⟨Ta_turns (Pa_tally pa'), pa', row, ?_, ?_, e6⟩
  · have hne : ¬ (TT_kept tt) = (0 : Int32) := by rw [h]; decide
    unfold f_TT_back
    exact (if_neg hne).trans (s_bd e1 rfl)
  · have hne : ¬ M_hasImage (M_im m) = (0 : Int32) := by rw [g]; decide
    unfold f_M_back
    refine (if_neg hne).trans (s_bd e4 ?_)
    rw [RPa_turns e6]
    rfl
