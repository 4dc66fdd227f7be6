/-! a PAIR that is copied -/
theorem C_copySt (v w : T_St) : ∃ r f mk on, f_St_copyFrom v w = some (r, f, mk, on, St_place w, St_steps w) ∧ (∀ k, k < 8 → mk k = St_stuckMask w k) ∧ (∀ k, k < 8 → on k = St_stuckOnes w k) ∧ (∀ k, k < 8 → r k = (St_registers w k &&& ~~~(St_stuckMask w k)) ||| St_stuckOnes w k) ∧ (∀ k, k < 4 → f k = St_floats w k) := by
  obtain ⟨mk, hmk⟩ : ∃ mk, mk = va_cpy (St_stuckMask w) (St_stuckMask v) 0 0 8 := ⟨_, rfl⟩
  obtain ⟨on, hon⟩ : ∃ on, on = va_cpy (St_stuckOnes w) (St_stuckOnes v) 0 0 8 := ⟨_, rfl⟩
  have h1 : ∀ k, k < 8 → mk k = St_stuckMask w k := fun k hk => by rw [hmk]; exact cpy_in hk
  have h2 : ∀ k, k < 8 → on k = St_stuckOnes w k := fun k hk => by rw [hon]; exact cpy_in hk
  obtain ⟨r, f, e, hr, hf⟩ := C_standAs ((St_registers v), (St_floats v), mk, on, (St_place v), (St_steps v)) w
  refine ⟨r, f, mk, on, ?_, h1, h2, ?_, hf⟩
  · unfold f_St_copyFrom
    rw [← hmk, ← hon]
    repeat first | (with_reducible refine s_nmj1 ?_) | (with_reducible refine s_nmj2 ?_) | ((with_reducible refine s_nm ?_); intro y_ hy_; (try simp (disch := omega) only [n_lit, n_add, n_mul, n_sub, n_tn, n_ltT, n_ltF, n_leT, n_leF, n_eqT, n_eqF, n_div, n_ixT, n_ixF, n_not, n_md, n_dec, n_and1, n_and3, n_and7, n_and15, n_and31, n_and63, Nat.mod_eq_of_lt, Nat.zero_add, Nat.add_zero, Nat.zero_mul, Nat.sub_zero, not_false_eq_true, not_true_eq_false, upd_at, upd_ne] at hy_); subst hy_) | ((with_reducible refine s_pos ?_ ?_); · simp (disch := omega) only [n_lit, n_add, n_mul, n_sub, n_tn, n_ltT, n_ltF, n_leT, n_leF, n_eqT, n_eqF, n_div, n_ixT, n_ixF, n_not, n_md, n_dec, n_and1, n_and3, n_and7, n_and15, n_and31, n_and63, Nat.mod_eq_of_lt, Nat.zero_add, Nat.add_zero, Nat.zero_mul, Nat.sub_zero, not_false_eq_true, not_true_eq_false, upd_at, upd_ne]) | ((with_reducible refine s_neg ?_ ?_); · simp (disch := omega) only [n_lit, n_add, n_mul, n_sub, n_tn, n_ltT, n_ltF, n_leT, n_leF, n_eqT, n_eqF, n_div, n_ixT, n_ixF, n_not, n_md, n_dec, n_and1, n_and3, n_and7, n_and15, n_and31, n_and63, Nat.mod_eq_of_lt, Nat.zero_add, Nat.add_zero, Nat.zero_mul, Nat.sub_zero, not_false_eq_true, not_true_eq_false, upd_at, upd_ne])  | (with_reducible refine s_bd e ?_)
    rfl
  · intro k hk
    rw [hr k hk]
    show (St_registers w k &&& ~~~(mk k)) ||| on k = _
    rw [h1 k hk, h2 k hk]
theorem RSt_ext {w : Nat} {st : T_St} {s r f mk on : Nat → Int32} {pl n : Nat} (h : RSt w st s pl n) (h1 : ∀ k, k < 8 → mk k = St_stuckMask st k) (h2 : ∀ k, k < 8 → on k = St_stuckOnes st k) (h3 : ∀ k, k < 8 → r k = (St_registers st k &&& ~~~(St_stuckMask st k)) ||| St_stuckOnes st k) (h4 : ∀ k, k < 4 → f k = St_floats st k) :
    RSt w (r, f, mk, on, St_place st, St_steps st) s pl n := by
  obtain ⟨a, b, c1, c2, c3, c4, c5⟩ := h
  have h3' : ∀ k, k < 8 → r k = St_registers st k := fun k hk => (h3 k hk).trans (bit3 (c5 k hk).2 (c5 k hk).1)
  exact ⟨a, b, fun k hk => (c1 k hk).trans (h3' k hk).symm, fun k hk => (c2 k hk).trans (h4 k hk).symm, fun k hk => (c3 k hk).trans (h1 k hk).symm, fun k hk => (c4 k hk).trans (h2 k hk).symm,
    fun k hk => by
      show on k &&& mk k = on k ∧ r k &&& mk k = on k
      rw [h1 k hk, h2 k hk, h3' k hk]; exact c5 k hk⟩
theorem RBk_ext {st : T_St} {s r f mk on : Nat → Int32} {pl : Nat} (h : RBk st s pl) (h1 : ∀ k, k < 8 → mk k = St_stuckMask st k) (h2 : ∀ k, k < 8 → on k = St_stuckOnes st k) (h3 : ∀ k, k < 8 → r k = (St_registers st k &&& ~~~(St_stuckMask st k)) ||| St_stuckOnes st k) (h4 : ∀ k, k < 4 → f k = St_floats st k) (n : Int32) :
    RBk (r, f, mk, on, St_place st, n) s pl := by
  obtain ⟨a, b, c1, c2, c3, c4, c5⟩ := h
  have h3' : ∀ k, k < 8 → r k = St_registers st k := fun k hk => (h3 k hk).trans (by
    rw [(c5 k hk).1, (c5 k hk).2]
    apply Int32.toBitVec_inj.mp
    rw [Int32.toBitVec_or, Int32.toBitVec_and, Int32.toBitVec_not]
    show (St_registers st k).toBitVec &&& ~~~(0#32) ||| 0#32 = _
    rw [BitVec.or_zero]; show (St_registers st k).toBitVec &&& BitVec.allOnes 32 = _; rw [BitVec.and_allOnes])
  exact ⟨a, b, c1, c2, fun k hk => ⟨(c3 k hk).1.trans (h3' k hk).symm, (c3 k hk).2.trans (h3' k hk).symm⟩, fun k hk => ⟨(c4 k hk).1.trans (h4 k hk).symm, (c4 k hk).2.trans (h4 k hk).symm⟩,
    fun k hk => ⟨(h1 k hk).trans (c5 k hk).1, (h2 k hk).trans (c5 k hk).2⟩⟩
def cpQu (v w : T_Qu) : T_Qu := (va_cpy (Qu_loadAddress w) (Qu_loadAddress v) 0 0 8, va_cpy (Qu_loadWord w) (Qu_loadWord v) 0 0 8, va_cpy (Qu_branch w) (Qu_branch v) 0 0 8, va_cpy (Qu_heldAddress w) (Qu_heldAddress v) 0 0 8, va_cpy (Qu_heldWord w) (Qu_heldWord v) 0 0 8, va_cpy (Qu_besideAddress w) (Qu_besideAddress v) 0 0 8, va_cpy (Qu_besideWord w) (Qu_besideWord v) 0 0 8, Qu_firstLoad w, Qu_loads w, Qu_firstBranch w, Qu_branches w, Qu_held w, Qu_comparedHeld w)
theorem C_copyQu (v w : T_Qu) : f_Qu_copyFrom v w = some (cpQu v w) := by
  unfold f_Qu_copyFrom
  repeat first | (with_reducible refine s_nmj1 ?_) | (with_reducible refine s_nmj2 ?_) | ((with_reducible refine s_nm ?_); intro y_ hy_; (try simp (disch := omega) only [n_lit, n_add, n_mul, n_sub, n_tn, n_ltT, n_ltF, n_leT, n_leF, n_eqT, n_eqF, n_div, n_ixT, n_ixF, n_not, n_md, n_dec, n_and1, n_and3, n_and7, n_and15, n_and31, n_and63, Nat.mod_eq_of_lt, Nat.zero_add, Nat.add_zero, Nat.zero_mul, Nat.sub_zero, not_false_eq_true, not_true_eq_false, upd_at, upd_ne] at hy_); subst hy_) | ((with_reducible refine s_pos ?_ ?_); · simp (disch := omega) only [n_lit, n_add, n_mul, n_sub, n_tn, n_ltT, n_ltF, n_leT, n_leF, n_eqT, n_eqF, n_div, n_ixT, n_ixF, n_not, n_md, n_dec, n_and1, n_and3, n_and7, n_and15, n_and31, n_and63, Nat.mod_eq_of_lt, Nat.zero_add, Nat.add_zero, Nat.zero_mul, Nat.sub_zero, not_false_eq_true, not_true_eq_false, upd_at, upd_ne]) | ((with_reducible refine s_neg ?_ ?_); · simp (disch := omega) only [n_lit, n_add, n_mul, n_sub, n_tn, n_ltT, n_ltF, n_leT, n_leF, n_eqT, n_eqF, n_div, n_ixT, n_ixF, n_not, n_md, n_dec, n_and1, n_and3, n_and7, n_and15, n_and31, n_and63, Nat.mod_eq_of_lt, Nat.zero_add, Nat.add_zero, Nat.zero_mul, Nat.sub_zero, not_false_eq_true, not_true_eq_false, upd_at, upd_ne]) 
  rfl
def cpOu (v w : T_Ou) : T_Ou := (va_cpy (Ou_memory w) (Ou_memory v) 0 0 32, va_cpy (Ou_output w) (Ou_output v) 0 0 40, va_cpy (Ou_leftAddress w) (Ou_leftAddress v) 0 0 16, va_cpy (Ou_leftWord w) (Ou_leftWord v) 0 0 16, va_cpy (Ou_leftPoint w) (Ou_leftPoint v) 0 0 16, Ou_stores w, Ou_outputs w)
theorem C_copyOu (v w : T_Ou) : f_Ou_copyFrom v w = some (cpOu v w) := by
  unfold f_Ou_copyFrom
  repeat first | (with_reducible refine s_nmj1 ?_) | (with_reducible refine s_nmj2 ?_) | ((with_reducible refine s_nm ?_); intro y_ hy_; (try simp (disch := omega) only [n_lit, n_add, n_mul, n_sub, n_tn, n_ltT, n_ltF, n_leT, n_leF, n_eqT, n_eqF, n_div, n_ixT, n_ixF, n_not, n_md, n_dec, n_and1, n_and3, n_and7, n_and15, n_and31, n_and63, Nat.mod_eq_of_lt, Nat.zero_add, Nat.add_zero, Nat.zero_mul, Nat.sub_zero, not_false_eq_true, not_true_eq_false, upd_at, upd_ne] at hy_); subst hy_) | ((with_reducible refine s_pos ?_ ?_); · simp (disch := omega) only [n_lit, n_add, n_mul, n_sub, n_tn, n_ltT, n_ltF, n_leT, n_leF, n_eqT, n_eqF, n_div, n_ixT, n_ixF, n_not, n_md, n_dec, n_and1, n_and3, n_and7, n_and15, n_and31, n_and63, Nat.mod_eq_of_lt, Nat.zero_add, Nat.add_zero, Nat.zero_mul, Nat.sub_zero, not_false_eq_true, not_true_eq_false, upd_at, upd_ne]) | ((with_reducible refine s_neg ?_ ?_); · simp (disch := omega) only [n_lit, n_add, n_mul, n_sub, n_tn, n_ltT, n_ltF, n_leT, n_leF, n_eqT, n_eqF, n_div, n_ixT, n_ixF, n_not, n_md, n_dec, n_and1, n_and3, n_and7, n_and15, n_and31, n_and63, Nat.mod_eq_of_lt, Nat.zero_add, Nat.add_zero, Nat.zero_mul, Nat.sub_zero, not_false_eq_true, not_true_eq_false, upd_at, upd_ne]) 
  rfl
def cpTa (v w : T_Ta) : T_Ta := (va_cpy (Ta_alarmSort w) (Ta_alarmSort v) 0 0 8, va_cpy (Ta_alarmTurn w) (Ta_alarmTurn v) 0 0 8, va_cpy (Ta_alarmLeaderSteps w) (Ta_alarmLeaderSteps v) 0 0 8, va_cpy (Ta_alarmTrailerSteps w) (Ta_alarmTrailerSteps v) 0 0 8, Ta_turns w, Ta_points w, Ta_alarms w, Ta_alarmsSincePoint w, Ta_greatestAhead w, Ta_aheadSum w, Ta_leaderTurns w, Ta_trailerTurns w, Ta_comparedSteps w)
theorem C_copyTa (v w : T_Ta) : f_Ta_copyFrom v w = some (cpTa v w) := by
  unfold f_Ta_copyFrom
  repeat first | (with_reducible refine s_nmj1 ?_) | (with_reducible refine s_nmj2 ?_) | ((with_reducible refine s_nm ?_); intro y_ hy_; (try simp (disch := omega) only [n_lit, n_add, n_mul, n_sub, n_tn, n_ltT, n_ltF, n_leT, n_leF, n_eqT, n_eqF, n_div, n_ixT, n_ixF, n_not, n_md, n_dec, n_and1, n_and3, n_and7, n_and15, n_and31, n_and63, Nat.mod_eq_of_lt, Nat.zero_add, Nat.add_zero, Nat.zero_mul, Nat.sub_zero, not_false_eq_true, not_true_eq_false, upd_at, upd_ne] at hy_); subst hy_) | ((with_reducible refine s_pos ?_ ?_); · simp (disch := omega) only [n_lit, n_add, n_mul, n_sub, n_tn, n_ltT, n_ltF, n_leT, n_leF, n_eqT, n_eqF, n_div, n_ixT, n_ixF, n_not, n_md, n_dec, n_and1, n_and3, n_and7, n_and15, n_and31, n_and63, Nat.mod_eq_of_lt, Nat.zero_add, Nat.add_zero, Nat.zero_mul, Nat.sub_zero, not_false_eq_true, not_true_eq_false, upd_at, upd_ne]) | ((with_reducible refine s_neg ?_ ?_); · simp (disch := omega) only [n_lit, n_add, n_mul, n_sub, n_tn, n_ltT, n_ltF, n_leT, n_leF, n_eqT, n_eqF, n_div, n_ixT, n_ixF, n_not, n_md, n_dec, n_and1, n_and3, n_and7, n_and15, n_and31, n_and63, Nat.mod_eq_of_lt, Nat.zero_add, Nat.add_zero, Nat.zero_mul, Nat.sub_zero, not_false_eq_true, not_true_eq_false, upd_at, upd_ne]) 
  rfl
theorem RLd_ext {v w : T_Qu} {s : Nat → Int32} {f n : Nat} (h : RLd w s f n) : RLd (cpQu v w) s f n := by
  obtain ⟨a, b, c⟩ := h
  exact ⟨a, b, fun k hk => ⟨(c k hk).1.trans (cpy_in (Nat.mod_lt _ (by decide))).symm, (c k hk).2.trans (cpy_in (Nat.mod_lt _ (by decide))).symm⟩⟩
theorem RBr_ext {v w : T_Qu} {s : Nat → Int32} {f n : Nat} (h : RBr w s f n) : RBr (cpQu v w) s f n := by
  obtain ⟨a, b, c⟩ := h
  exact ⟨a, b, fun k hk => ⟨(c k hk).1.trans (cpy_in (Nat.mod_lt _ (by decide))).symm, (c k hk).2⟩⟩
theorem RHe_ext {v w : T_Qu} {s : Nat → Int32} {n c : Nat} (h : RHe w s n c) : RHe (cpQu v w) s n c := by
  obtain ⟨a, b, c1, c2⟩ := h
  have a3 := a.2.2
  have b3 := b.2.2
  exact ⟨a, b, fun k hk => ⟨(c1 k hk).1.trans (cpy_in (by omega)).symm, (c1 k hk).2.1.trans (cpy_in (by omega)).symm, (c1 k hk).2.2⟩, fun k hk => ⟨(c2 k hk).1.trans (cpy_in (by omega)).symm, (c2 k hk).2.trans (cpy_in (by omega)).symm⟩⟩
theorem ROu_ext {v w : T_Ou} {s : Nat → Int32} {ns no : Nat} (h : ROu w s ns no) : ROu (cpOu v w) s ns no := by
  obtain ⟨o1, o2, o3, o4, o5, o6, o7, o8⟩ := h
  exact ⟨fun a ha => (o1 a ha).trans (cpy_in ha).symm, o2, o3, o4, fun k hk => (o5 k hk).trans (cpy_in (Nat.mod_lt _ (by decide))).symm, o6, o7,
    fun k hk => ⟨(o8 k hk).1.trans (cpy_in (Nat.mod_lt _ (by decide))).symm, (o8 k hk).2.1.trans (cpy_in (Nat.mod_lt _ (by decide))).symm, (o8 k hk).2.2.trans (cpy_in (Nat.mod_lt _ (by decide))).symm⟩⟩
theorem RTa_ext {v w : T_Ta} {s : Nat → Int32} {tu po al si sm : Nat} (h : RTa w s tu po al si sm) : RTa (cpTa v w) s tu po al si sm := by
  obtain ⟨t1, t2, t3, t4, t5, t6, t7, t8, t9, t10⟩ := h
  exact ⟨t1, t2, t3, t4, t5, t6, t7, t8, t9, fun k hk hk2 => ⟨(t10 k hk hk2).1.trans (cpy_in (Nat.mod_lt _ (by decide))).symm, (t10 k hk hk2).2.1.trans (cpy_in (Nat.mod_lt _ (by decide))).symm, (t10 k hk hk2).2.2.1.trans (cpy_in (Nat.mod_lt _ (by decide))).symm, (t10 k hk hk2).2.2.2.trans (cpy_in (Nat.mod_lt _ (by decide))).symm⟩⟩
theorem RRu_ext {ru : Nat → Int32} {v : T_M} {sp lo hi z0 z1 z2 tr : Nat} (h : RRu ru v sp lo hi z0 z1 z2 tr) (f : Nat → Int32) (e : ∀ k, k < 8 → f k = ru k) : RRu f v sp lo hi z0 z1 z2 tr := by
  obtain ⟨u1, u2, u3, u4, u5, u6, u7⟩ := h
  exact ⟨⟨(e _ (by decide)).trans u1.1, u1.2⟩, ⟨(e _ (by decide)).trans u2.1, u2.2⟩, ⟨(e _ (by decide)).trans u3.1, u3.2⟩, ⟨(e _ (by decide)).trans u4.1, u4.2⟩, ⟨(e _ (by decide)).trans u5.1, u5.2⟩, ⟨(e _ (by decide)).trans u6.1, u6.2⟩, ⟨(e _ (by decide)).trans u7.1, u7.2⟩⟩
theorem isB_n {k : Nat} (h : k ≤ 1) : isB (NN k) := by
  rcases (by omega : k = 0 ∨ k = 1) with rfl | rfl
  · exact Or.inl rfl
  · exact Or.inr rfl
set_option maxHeartbeats 2000000 in
theorem C_copyPa {B : Nat} {pa : T_Pa} {pr : T_Pg} {m : T_M} (h : RPa B pa pr m) (old : T_Pa) : ∃ pa', f_Pa_copyFrom old pa = some pa' ∧ RPa B pa' pr m ∧ Pa_done pa' = Pa_done pa ∧ Pa_down pa' = Pa_down pa ∧ St_steps (Pa_leader pa') = St_steps (Pa_leader pa) ∧ St_steps (Pa_trailer pa') = St_steps (Pa_trailer pa) ∧ Ta_turns (Pa_tally pa') = Ta_turns (Pa_tally pa) := by
  obtain ⟨n, sp, lo, hi, z0, z1, z2, tr, pl, nl, pt, nt, pb, fl, nld, fb, nbr, nh, nc, ns, no, tu, po, al, si, sm, dn, dw, hcd, hru, hq, hbk, hou, hta, hdn, hdw, hbd⟩ := h
  obtain ⟨hL, hT, hLd, hBr, hHe, hle⟩ := id hq
  obtain ⟨r1, f1, k1, n1, e1, p1, p2, p3, p4⟩ := C_copySt (Pa_leader old) (Pa_leader pa)
  obtain ⟨r2, f2, k2, n2, e2, p5, p6, p7, p8⟩ := C_copySt (Pa_trailer old) (Pa_trailer pa)
  obtain ⟨r3, f3, k3, n3, e3, p9, p10, p11, p12⟩ := C_copySt (Pa_point old) (Pa_point pa)
  have hB1 : isB (Pa_done pa) := by rw [hdn.1]; exact isB_n hdn.2.2
  have hB2 : isB (Pa_down pa) := by rw [hdw.1]; exact isB_n hdw.2.2
  refine ⟨(va_cpy (Pa_rules pa) (Pa_rules old) 0 0 8, (r1, f1, k1, n1, St_place (Pa_leader pa), St_steps (Pa_leader pa)), (r2, f2, k2, n2, St_place (Pa_trailer pa), St_steps (Pa_trailer pa)), (r3, f3, k3, n3, St_place (Pa_point pa), St_steps (Pa_point pa)), cpQu (Pa_queues old) (Pa_queues pa), cpOu (Pa_outside old) (Pa_outside pa), cpTa (Pa_tally old) (Pa_tally pa), Pa_done pa, Pa_down pa), ?_, ?_, rfl, rfl, rfl, rfl, rfl⟩
  rotate_left
  · refine ⟨n, sp, lo, hi, z0, z1, z2, tr, pl, nl, pt, nt, pb, fl, nld, fb, nbr, nh, nc, ns, no, tu, po, al, si, sm, dn, dw, hcd, ?_, ⟨RSt_ext hL p1 p2 p3 p4, RSt_ext hT p5 p6 p7 p8, RLd_ext hLd, RBr_ext hBr, RHe_ext hHe, hle⟩, RBk_ext hbk p9 p10 p11 p12 _, ROu_ext hou, RTa_ext hta, hdn, hdw, hbd⟩
    exact RRu_ext hru (va_cpy (Pa_rules pa) (Pa_rules old) 0 0 8) (fun k hk => cpy_in hk)
  · unfold f_Pa_copyFrom
    repeat first | (with_reducible refine s_nmj1 ?_) | (with_reducible refine s_nmj2 ?_) | ((with_reducible refine s_nm ?_); intro y_ hy_; (try simp (disch := omega) only [n_lit, n_add, n_mul, n_sub, n_tn, n_ltT, n_ltF, n_leT, n_leF, n_eqT, n_eqF, n_div, n_ixT, n_ixF, n_not, n_md, n_dec, n_and1, n_and3, n_and7, n_and15, n_and31, n_and63, Nat.mod_eq_of_lt, Nat.zero_add, Nat.add_zero, Nat.zero_mul, Nat.sub_zero, not_false_eq_true, not_true_eq_false, upd_at, upd_ne] at hy_); subst hy_) | ((with_reducible refine s_pos ?_ ?_); · simp (disch := omega) only [n_lit, n_add, n_mul, n_sub, n_tn, n_ltT, n_ltF, n_leT, n_leF, n_eqT, n_eqF, n_div, n_ixT, n_ixF, n_not, n_md, n_dec, n_and1, n_and3, n_and7, n_and15, n_and31, n_and63, Nat.mod_eq_of_lt, Nat.zero_add, Nat.add_zero, Nat.zero_mul, Nat.sub_zero, not_false_eq_true, not_true_eq_false, upd_at, upd_ne]) | ((with_reducible refine s_neg ?_ ?_); · simp (disch := omega) only [n_lit, n_add, n_mul, n_sub, n_tn, n_ltT, n_ltF, n_leT, n_leF, n_eqT, n_eqF, n_div, n_ixT, n_ixF, n_not, n_md, n_dec, n_and1, n_and3, n_and7, n_and15, n_and31, n_and63, Nat.mod_eq_of_lt, Nat.zero_add, Nat.add_zero, Nat.zero_mul, Nat.sub_zero, not_false_eq_true, not_true_eq_false, upd_at, upd_ne])  | (with_reducible refine s_bd e1 ?_) | (with_reducible refine s_bd e2 ?_) | (with_reducible refine s_bd e3 ?_) | (with_reducible refine s_bd (C_copyQu _ _) ?_) | (with_reducible refine s_bd (C_copyOu _ _) ?_) | (with_reducible refine s_bd (C_copyTa _ _) ?_) | ((with_reducible refine s_pos ?_ ?_); · exact hB1) | ((with_reducible refine s_pos ?_ ?_); · exact hB2)
    rfl
