/-! one go BY CHANCE -/
theorem M_flips0' {m : T_M} {a1 a2 a3 : Int32} (e : f_M_flippedAt m a1 a2 a3 = some (-1)) : f_M_flips m a1 a2 a3 = some (NN 0, m) := by
  unfold f_M_flips
  repeat first | (with_reducible refine s_nmj1 ?_) | (with_reducible refine s_nmj2 ?_) | ((with_reducible refine s_nm ?_); intro y_ hy_; (try simp (disch := omega) only [n_lit, n_add, n_mul, n_sub, n_tn, n_ltT, n_ltF, n_leT, n_leF, n_eqT, n_eqF, n_div, n_ixT, n_ixF, n_not, n_md, n_dec, n_and1, n_and3, n_and7, n_and15, n_and31, n_and63, Nat.mod_eq_of_lt, Nat.zero_add, Nat.add_zero, Nat.zero_mul, Nat.sub_zero, not_false_eq_true, not_true_eq_false, upd_at, upd_ne] at hy_); subst hy_) | ((with_reducible refine s_pos ?_ ?_); · simp (disch := omega) only [n_lit, n_add, n_mul, n_sub, n_tn, n_ltT, n_ltF, n_leT, n_leF, n_eqT, n_eqF, n_div, n_ixT, n_ixF, n_not, n_md, n_dec, n_and1, n_and3, n_and7, n_and15, n_and31, n_and63, Nat.mod_eq_of_lt, Nat.zero_add, Nat.add_zero, Nat.zero_mul, Nat.sub_zero, not_false_eq_true, not_true_eq_false, upd_at, upd_ne]) | ((with_reducible refine s_neg ?_ ?_); · simp (disch := omega) only [n_lit, n_add, n_mul, n_sub, n_tn, n_ltT, n_ltF, n_leT, n_leF, n_eqT, n_eqF, n_div, n_ixT, n_ixF, n_not, n_md, n_dec, n_and1, n_and3, n_and7, n_and15, n_and31, n_and63, Nat.mod_eq_of_lt, Nat.zero_add, Nat.add_zero, Nat.zero_mul, Nat.sub_zero, not_false_eq_true, not_true_eq_false, upd_at, upd_ne])  | (with_reducible refine s_bd e ?_) | ((with_reducible refine s_pos ?_ ?_); · rfl)
  rfl
theorem after_flip (pr : T_Pg) (r3 r5 r7 : Int32) {ah : Nat} (hah : ah < 50) (k45 : T_Pa → Option (Int32 × T_Pa)) (k : T_M → Option T_M) (v0 : T_M) {pa : T_Pa} {row : Nat → Int32} {pt : Int32} (n0 : Nat) (h : ST ah pa pr v0 row pt) :
    ∃ pa' row' pt', ST 300 pa' pr v0 row' pt' ∧ (bd2 (f_Pa_turn pa pr) fun (r19 : Int32) (v20 : T_Pa) => f_TT_runByChance_L45 pr r3 r5 r7 (NN ah) k45 (n0 + 1 + (299 - ah)) (NN (ah + 1)) v20) = k45 pa' ∧ f_M_goesUntil_L2 (NN 300) k LF (NN 1) (mP v0 row pt) = k (mP v0 row' pt') := by
  have last : ∀ pa', f_TT_runByChance_L45 pr r3 r5 r7 (NN ah) k45 (n0 + 1) (NN 300) pa' = k45 pa' := fun pa' => by
    rw [f_TT_runByChance_L45]
    repeat first | (with_reducible refine s_nmj1 ?_) | (with_reducible refine s_nmj2 ?_) | ((with_reducible refine s_nm ?_); intro y_ hy_; (try simp (disch := omega) only [n_lit, n_add, n_mul, n_sub, n_tn, n_ltT, n_ltF, n_leT, n_leF, n_eqT, n_eqF, n_div, n_ixT, n_ixF, n_not, n_md, n_dec, n_and1, n_and3, n_and7, n_and15, n_and31, n_and63, Nat.mod_eq_of_lt, Nat.zero_add, Nat.add_zero, Nat.zero_mul, Nat.sub_zero, not_false_eq_true, not_true_eq_false, upd_at, upd_ne] at hy_); subst hy_) | ((with_reducible refine s_pos ?_ ?_); · simp (disch := omega) only [n_lit, n_add, n_mul, n_sub, n_tn, n_ltT, n_ltF, n_leT, n_leF, n_eqT, n_eqF, n_div, n_ixT, n_ixF, n_not, n_md, n_dec, n_and1, n_and3, n_and7, n_and15, n_and31, n_and63, Nat.mod_eq_of_lt, Nat.zero_add, Nat.add_zero, Nat.zero_mul, Nat.sub_zero, not_false_eq_true, not_true_eq_false, upd_at, upd_ne]) | ((with_reducible refine s_neg ?_ ?_); · simp (disch := omega) only [n_lit, n_add, n_mul, n_sub, n_tn, n_ltT, n_ltF, n_leT, n_leF, n_eqT, n_eqF, n_div, n_ixT, n_ixF, n_not, n_md, n_dec, n_and1, n_and3, n_and7, n_and15, n_and31, n_and63, Nat.mod_eq_of_lt, Nat.zero_add, Nat.add_zero, Nat.zero_mul, Nat.sub_zero, not_false_eq_true, not_true_eq_false, upd_at, upd_ne]) 
    rfl
  have hLF : ∃ q, LF = q + 303 := ⟨LF - 303, by have := lf_big (d := 400) (by decide); omega⟩
  obtain ⟨q, hq⟩ := hLF
  rcases h with ⟨h, ⟨o1, o2, e⟩ | ⟨⟨x1, x2, x3⟩, ⟨x4, o⟩, x5⟩⟩
  · have hrow : M_s (M_rn (mP v0 row pt)) = row := rfl
    obtain ⟨kind, pa1, row1, pt1, c2, c3, c4, c5⟩ := one_turn h (by omega) o1 o2
    rw [e, n_add] at c5
    obtain ⟨pa', row', pt', f0, f1, f2⟩ := until_loop pr r3 r5 r7 (by omega : ah < 300) k45 k v0 (299 - ah) (ah + 1) (n0 + 1) (q + 302) 300 pa1 row1 pt1 (by omega) (by omega) (by omega) (fun j h1 h2 => by omega) (ST_of c4 c5)
    refine ⟨pa', row', pt', f0, ?_, ?_⟩
    · refine s_bd2 c2 ?_
      rw [f1, last]
    · rw [← f2, hq, f_M_goesUntil_L2]
      repeat first | (with_reducible refine s_nmj1 ?_) | (with_reducible refine s_nmj2 ?_) | ((with_reducible refine s_nm ?_); intro y_ hy_; (try simp (disch := omega) only [n_lit, n_add, n_mul, n_sub, n_tn, n_ltT, n_ltF, n_leT, n_leF, n_eqT, n_eqF, n_div, n_ixT, n_ixF, n_not, n_md, n_dec, n_and1, n_and3, n_and7, n_and15, n_and31, n_and63, Nat.mod_eq_of_lt, Nat.zero_add, Nat.add_zero, Nat.zero_mul, Nat.sub_zero, not_false_eq_true, not_true_eq_false, upd_at, upd_ne, hrow, e] at hy_); subst hy_) | ((with_reducible refine s_pos ?_ ?_); · simp (disch := omega) only [n_lit, n_add, n_mul, n_sub, n_tn, n_ltT, n_ltF, n_leT, n_leF, n_eqT, n_eqF, n_div, n_ixT, n_ixF, n_not, n_md, n_dec, n_and1, n_and3, n_and7, n_and15, n_and31, n_and63, Nat.mod_eq_of_lt, Nat.zero_add, Nat.add_zero, Nat.zero_mul, Nat.sub_zero, not_false_eq_true, not_true_eq_false, upd_at, upd_ne, hrow, e]) | ((with_reducible refine s_neg ?_ ?_); · simp (disch := omega) only [n_lit, n_add, n_mul, n_sub, n_tn, n_ltT, n_ltF, n_leT, n_leF, n_eqT, n_eqF, n_div, n_ixT, n_ixF, n_not, n_md, n_dec, n_and1, n_and3, n_and7, n_and15, n_and31, n_and63, Nat.mod_eq_of_lt, Nat.zero_add, Nat.add_zero, Nat.zero_mul, Nat.sub_zero, not_false_eq_true, not_true_eq_false, upd_at, upd_ne, hrow, e]) 
      refine s_bd2 c3 ?_
      rfl
  · refine ⟨pa, row, pt, ⟨RPa_mono h (by omega), Or.inr ⟨⟨x1, x2, x3⟩, ⟨x4, o⟩, x5⟩⟩, ?_, ?_⟩
    · refine s_bd2 x2 ?_
      rw [over_stay pr r3 r5 r7 (by omega : ah < 300) k45 x2 (299 - ah) (ah + 1) (n0 + 1) 300 (by omega) (by omega) (fun j h1 h2 => by omega), last]
    · rw [hq]; exact until_over h (by omega) (by omega) o k (q + 301)
def xD (v : T_M) (d : Int32) : T_M := ((M_tp v), (M_rd v), (M_lf v), (M_cd v), (M_rn v), ((M_aside (M_ex v)), (M_further (M_ex v)), (M_shotAlarm (M_ex v)), d), (M_im v), (M_al v), (M_thrown v))
theorem xD_draw (v : T_M) (d : Int32) (row : Nat → Int32) (pt : Int32) {k : Nat} (hk : 1 ≤ k ∧ k < 2147483648) {d' : Int32} (hd : rF d = d') : f_M_draw (mP (xD v d) row pt) (NN k) = some (rD d' (NN k), mP (xD v d') row pt) := by
  have e : M_drawn (M_ex (mP (xD v d) row pt)) = d := by simp only [mP, xD, M_tp_mk, M_rd_mk, M_lf_mk, M_cd_mk, M_rn_mk, M_ex_mk, M_im_mk, M_al_mk, M_thrown_mk, M_s_mk, M_spanNow_mk, M_sizeNow_mk, M_placeThen_mk, M_drawn_mk]
  rw [M_draw1 _ hk, e, hd]
  simp only [mZ, mP, xD, M_tp_mk, M_rd_mk, M_lf_mk, M_cd_mk, M_rn_mk, M_ex_mk, M_im_mk, M_al_mk, M_thrown_mk, M_s_mk, M_spanNow_mk, M_sizeNow_mk, M_placeThen_mk, M_drawn_mk, M_aside_mk, M_further_mk, M_shotAlarm_mk]
theorem RPa_xD {B : Nat} {pa : T_Pa} {pr : T_Pg} {v : T_M} {row : Nat → Int32} {pt : Int32} {d : Int32} (h : RPa B pa pr (mP v row pt)) : RPa B pa pr (mP (xD v d) row pt) := h
theorem ST_of' {i : Nat} {pa : T_Pa} {pr : T_Pg} {v0 : T_M} {d d' : Int32} {row : Nat → Int32} {pt : Int32} (h : ST i pa pr (xD v0 d) row pt) : ST i pa pr (xD v0 d') row pt := by
  obtain ⟨h1, h2⟩ := h
  have h3 : RPa i pa pr (mP (xD v0 d') row pt) := h1
  refine ⟨h3, ?_⟩
  rcases h2 with o | ⟨-, -, dn, dw, x1, x2, x3, x4, x5, x6, x7⟩
  · exact Or.inl o
  · rcases turn_or h3 with o | ⟨o1, o2, -⟩
    · exact Or.inr o
    · have y1 : dn = 0 := n_inj (by omega) (by omega) (x3.symm.trans o1)
      have y2 : dw = 0 := n_inj (by omega) (by omega) (x5.symm.trans o2)
      omega
theorem flip_ST {ah : Nat} {pa : T_Pa} {pr : T_Pg} {v0 : T_M} {row : Nat → Int32} {pt : Int32} (h : ST ah pa pr v0 row pt) (a1 a2 a3 : Int32) : ∃ r pa' r2 row', f_Pa_flipBit pa a1 a2 a3 = some (r, pa') ∧ f_M_flips (mP v0 row pt) a1 a2 a3 = some (r2, mP v0 row' pt) ∧ ST ah pa' pr v0 row' pt := by
  rcases sim_flip h.1 a1 a2 a3 with ⟨f1, f2⟩ | ⟨b, i, pa2, hb, e3, hi, f1, f2, f3, f4, f5, f6, f7⟩
  · exact ⟨NN 0, pa, NN 0, row, f1, M_flips0' f2, h⟩
  · subst e3
    have hM := M_flips1' hb (by omega) f2
    refine ⟨NN 1, pa2, NN 1, stk (upd row i (row i ^^^ NN (2 ^ b))), f1, hM, f3, ?_⟩
    rcases h.2 with ⟨o1, o2, e⟩ | ⟨-, -, dn, dw, x1, x2, x3, x4, x5, x6, x7⟩
    · exact Or.inl ⟨f4.trans o1, f5.trans o2, by rw [stk_out (by omega), upd_ne (by omega)]; exact e⟩
    · rcases turn_or f3 with o | ⟨o1, o2, -⟩
      · exact Or.inr o
      · have y1 : dn = 0 := n_inj (by omega) (by omega) (x3.symm.trans (f4.symm.trans o1))
        have y2 : dw = 0 := n_inj (by omega) (by omega) (x5.symm.trans (f5.symm.trans o2))
        omega
set_option maxHeartbeats 8000000 in
theorem run_once {pr : T_Pg} {v : T_M} (hcf : RCf pr v) (tt : T_TT) (old : T_Pa) {x : Int32} (hx : M_drawn (M_ex v) = x) :
    ∃ pa' v17 ra v20 v22 rb v25 rc v28 rd v31 r33 v34 row sz pt, f_TT_runByChance tt old pr x = some (rF (rF (rF (rF x))), pa') ∧ f_M_begins v = some v17 ∧ f_M_draw v17 (50 : Int32) = some (ra, v20) ∧ f_M_goesUntil v20 ra = some v22 ∧ f_M_draw v22 (4 : Int32) = some (rb, v25) ∧ f_M_draw v25 (8 : Int32) = some (rc, v28) ∧ f_M_draw v28 (32 : Int32) = some (rd, v31) ∧
      f_M_flips v31 rb rc rd = some (r33, v34) ∧ f_M_goesUntil v34 (300 : Int32) = some (mZ v row (M_number (M_cd v) 0) sz pt ((M_aside (M_ex v)), (M_further (M_ex v)), (M_shotAlarm (M_ex v)), rF (rF (rF (rF x)))) (M_al v) (M_thrown v)) ∧
      RPa 300 pa' pr (mZ v row (M_number (M_cd v) 0) sz pt ((M_aside (M_ex v)), (M_further (M_ex v)), (M_shotAlarm (M_ex v)), rF (rF (rF (rF x)))) (M_al v) (M_thrown v)) ∧ (∀ k, k < 3 → sz k = M_number (M_cd v) (3 + k)) := by
  obtain ⟨row0, sz0, eB, hsz0, hb0⟩ := M_begins1 v
  obtain ⟨W, hW⟩ : ∃ W, W = mZ v row0 (M_number (M_cd v) 0) sz0 (M_placeThen (M_rn v)) (M_ex v) (M_al v) (M_thrown v) := ⟨_, rfl⟩
  rw [← hW] at eB
  have hcdW : M_cd W = M_cd v := by rw [hW]; rfl
  have hrW : M_s (M_rn W) = row0 := by rw [hW]; rfl
  have hWx : W = mP (xD W x) row0 (M_placeThen (M_rn W)) := by rw [hW, ← hx]; rfl
  obtain ⟨pa1, eC, hBEG⟩ := C_begin old pr
  obtain ⟨n, sp, lo, hi, z0, z1, z2, tr, se, hcd0, c1, c2, c3, c4, c5, c6, c7, c8, c9⟩ := id hcf
  have hcdW2 : RCd pr W n := by
    have : RCd pr W n = RCd pr v n := by unfold RCd IS; rw [hcdW]
    rw [this]; exact hcd0
  have hspW : M_spanNow (M_rn W) = M_number (M_cd v) 0 := by rw [hW]; rfl
  have hszW : M_sizeNow (M_rn W) = sz0 := by rw [hW]; rfl
  have hru : RRu (Pa_rules pa1) W sp lo hi z0 z1 z2 tr := by
    have hr := hBEG.1
    refine ⟨⟨(hr _ (by omega)).trans c1.1, hspW.trans c1.2.1, c1.2.2.2⟩, ⟨(hr _ (by omega)).trans c2.1, ?_, c2.2.2⟩, ⟨(hr _ (by omega)).trans c3.1, ?_, c3.2.2⟩, ⟨(hr _ (by omega)).trans c4.1, ?_, c4.2.2⟩, ⟨(hr _ (by omega)).trans c5.1, ?_, c5.2.2⟩, ⟨(hr _ (by omega)).trans c6.1, ?_, c6.2.2⟩, ⟨(hr _ (by omega)).trans c7.1, ?_, c7.2.2⟩⟩
    · rw [hcdW]; exact c2.2.1
    · rw [hcdW]; exact c3.2.1
    · rw [hszW, hsz0 0 (by omega)]; exact c4.2.1
    · rw [hszW, hsz0 1 (by omega)]; exact c5.2.1
    · rw [hszW, hsz0 2 (by omega)]; exact c6.2.1
    · rw [hcdW]; exact c7.2.1
  have hP := RPa_begin (m := W) (ru := Pa_rules pa1) hBEG hcdW2 hru (by rw [hcdW]; exact c9) (by rw [hrW]; unfold bgRow at hb0 ⊢; rw [hcdW]; exact hb0)
  have hP1 : RPa 0 pa1 pr W := hP
  rw [hWx] at hP1
  have h219 : row0 219 = NN 0 := (hb0 219 (by omega)).trans (if_neg (by omega))
  have hS0 : ST 0 pa1 pr (xD W (rF x)) row0 (M_placeThen (M_rn W)) := ST_of (RPa_xD hP1) h219
  obtain ⟨q1, hq1, eq1⟩ := rF_n x
  obtain ⟨ah, hah⟩ : ∃ ah, ah = (q1 / 65536) % 50 := ⟨_, rfl⟩
  have hah50 : ah < 50 := by rw [hah]; exact Nat.mod_lt _ (by decide)
  have eah : rD (rF x) (NN 50) = NN ah := by rw [eq1, rD_n hq1 (by decide), hah]
  obtain ⟨F1, hF1⟩ : ∃ F1, F1 = rF x := ⟨_, rfl⟩
  obtain ⟨F2, hF2⟩ : ∃ F2, F2 = rF F1 := ⟨_, rfl⟩
  obtain ⟨F3, hF3⟩ : ∃ F3, F3 = rF F2 := ⟨_, rfl⟩
  obtain ⟨F4, hF4⟩ : ∃ F4, F4 = rF F3 := ⟨_, rfl⟩
  rw [← hF1] at hS0 eah
  obtain ⟨k45, hk45⟩ : ∃ k45 : T_Pa → Option (Int32 × T_Pa), k45 = fun v15 => some (F4, v15) := ⟨_, rfl⟩
  have hLF : ∃ q, LF = q + 303 := ⟨LF - 303, by have := lf_big (d := 400) (by decide); omega⟩
  obtain ⟨q, hq⟩ := hLF
  obtain ⟨pa2, row2, pt2, hS2, g1, g2⟩ := until_loop pr F2 F3 F4 (by omega : ah < 300) k45 (fun v3 => some v3) (xD W F1) ah 0 (q + 303 - ah) LF ah pa1 row0 (M_placeThen (M_rn W)) (by omega) (by omega) (by omega) (fun j h1 h2 => by omega) hS0
  have hS2' : ST ah pa2 pr (xD W F4) row2 pt2 := ST_of' hS2
  obtain ⟨r, pa3, r2, row3, f1, f2, hS3⟩ := flip_ST hS2' (rD F2 (NN 4)) (rD F3 (NN 8)) (rD F4 (NN 32))
  obtain ⟨pa4, row4, pt4, hS4, g3, g4⟩ := after_flip pr F2 F3 F4 hah50 k45 (fun v3 => some v3) (xD W F4) (q + 2) hS3
  have hfin : mP (xD W F4) row4 pt4 = mZ v row4 (M_number (M_cd v) 0) sz0 pt4 ((M_aside (M_ex v)), (M_further (M_ex v)), (M_shotAlarm (M_ex v)), F4) (M_al v) (M_thrown v) := by rw [hW]; rfl
  have hR := hS4.1
  rw [hfin] at hR g4
  rw [← hF1, ← hF2, ← hF3, ← hF4]
  refine ⟨pa4, W, NN ah, mP (xD W F1) row0 (M_placeThen (M_rn W)), mP (xD W F1) row2 pt2, rD F2 (NN 4), mP (xD W F2) row2 pt2, rD F3 (NN 8), mP (xD W F3) row2 pt2, rD F4 (NN 32), mP (xD W F4) row2 pt2, r2, mP (xD W F4) row3 pt2, row4, sz0, pt4, ?_, eB, ?_, ?_, ?_, ?_, ?_, f2, ?_, hR, hsz0⟩
  · have e1 : f_TT_following x = some F1 := by rw [hF1]; rfl
    have e2 : f_TT_following F1 = some F2 := by rw [hF2]; rfl
    have e3 : f_TT_following F2 = some F3 := by rw [hF3]; rfl
    have e4 : f_TT_following F3 = some F4 := by rw [hF4]; rfl
    have e5 : f_TT_drawn F1 (50 : Int32) = some (NN ah) := by rw [← eah]; exact C_drawn F1 (k := 50) (by decide)
    have d4 : f_TT_drawn F2 (4 : Int32) = some (rD F2 (NN 4)) := C_drawn F2 (k := 4) (by decide)
    have d8 : f_TT_drawn F3 (8 : Int32) = some (rD F3 (NN 8)) := C_drawn F3 (k := 8) (by decide)
    have d32 : f_TT_drawn F4 (32 : Int32) = some (rD F4 (NN 32)) := C_drawn F4 (k := 32) (by decide)
    unfold f_TT_runByChance
    repeat first | (with_reducible refine s_nmj1 ?_) | (with_reducible refine s_nmj2 ?_) | ((with_reducible refine s_nm ?_); intro y_ hy_; (try simp (disch := omega) only [n_lit, n_add, n_mul, n_sub, n_tn, n_ltT, n_ltF, n_leT, n_leF, n_eqT, n_eqF, n_div, n_ixT, n_ixF, n_not, n_md, n_dec, n_and1, n_and3, n_and7, n_and15, n_and31, n_and63, Nat.mod_eq_of_lt, Nat.zero_add, Nat.add_zero, Nat.zero_mul, Nat.sub_zero, not_false_eq_true, not_true_eq_false, upd_at, upd_ne] at hy_); subst hy_) | ((with_reducible refine s_pos ?_ ?_); · simp (disch := omega) only [n_lit, n_add, n_mul, n_sub, n_tn, n_ltT, n_ltF, n_leT, n_leF, n_eqT, n_eqF, n_div, n_ixT, n_ixF, n_not, n_md, n_dec, n_and1, n_and3, n_and7, n_and15, n_and31, n_and63, Nat.mod_eq_of_lt, Nat.zero_add, Nat.add_zero, Nat.zero_mul, Nat.sub_zero, not_false_eq_true, not_true_eq_false, upd_at, upd_ne]) | ((with_reducible refine s_neg ?_ ?_); · simp (disch := omega) only [n_lit, n_add, n_mul, n_sub, n_tn, n_ltT, n_ltF, n_leT, n_leF, n_eqT, n_eqF, n_div, n_ixT, n_ixF, n_not, n_md, n_dec, n_and1, n_and3, n_and7, n_and15, n_and31, n_and63, Nat.mod_eq_of_lt, Nat.zero_add, Nat.add_zero, Nat.zero_mul, Nat.sub_zero, not_false_eq_true, not_true_eq_false, upd_at, upd_ne])  | (with_reducible refine s_bd e1 ?_) | (with_reducible refine s_bd e2 ?_) | (with_reducible refine s_bd e3 ?_) | (with_reducible refine s_bd e4 ?_) | (with_reducible refine s_bd e5 ?_) | (with_reducible refine s_bd eC ?_)
    have hL : f_TT_runByChance_L45 pr F2 F3 F4 (NN ah) k45 LF (0 : Int32) pa1 = some (F4, pa4) := by
      rw [show LF = (q + 303 - ah) + ah by omega]
      refine Eq.trans g1 ?_
      rw [show q + 303 - ah = (q + 2 + 1 + (299 - ah)) + 1 by omega, f_TT_runByChance_L45]
      have g3' := g3.trans (show k45 pa4 = some (F4, pa4) by rw [hk45])
      repeat first | (with_reducible refine s_nmj1 ?_) | (with_reducible refine s_nmj2 ?_) | ((with_reducible refine s_nm ?_); intro y_ hy_; (try simp (disch := omega) only [n_lit, n_add, n_mul, n_sub, n_tn, n_ltT, n_ltF, n_leT, n_leF, n_eqT, n_eqF, n_div, n_ixT, n_ixF, n_not, n_md, n_dec, n_and1, n_and3, n_and7, n_and15, n_and31, n_and63, Nat.mod_eq_of_lt, Nat.zero_add, Nat.add_zero, Nat.zero_mul, Nat.sub_zero, not_false_eq_true, not_true_eq_false, upd_at, upd_ne] at hy_); subst hy_) | ((with_reducible refine s_pos ?_ ?_); · simp (disch := omega) only [n_lit, n_add, n_mul, n_sub, n_tn, n_ltT, n_ltF, n_leT, n_leF, n_eqT, n_eqF, n_div, n_ixT, n_ixF, n_not, n_md, n_dec, n_and1, n_and3, n_and7, n_and15, n_and31, n_and63, Nat.mod_eq_of_lt, Nat.zero_add, Nat.add_zero, Nat.zero_mul, Nat.sub_zero, not_false_eq_true, not_true_eq_false, upd_at, upd_ne]) | ((with_reducible refine s_neg ?_ ?_); · simp (disch := omega) only [n_lit, n_add, n_mul, n_sub, n_tn, n_ltT, n_ltF, n_leT, n_leF, n_eqT, n_eqF, n_div, n_ixT, n_ixF, n_not, n_md, n_dec, n_and1, n_and3, n_and7, n_and15, n_and31, n_and63, Nat.mod_eq_of_lt, Nat.zero_add, Nat.add_zero, Nat.zero_mul, Nat.sub_zero, not_false_eq_true, not_true_eq_false, upd_at, upd_ne])  | (with_reducible refine s_bd d4 ?_) | (with_reducible refine s_bd d8 ?_) | (with_reducible refine s_bd d32 ?_) | (with_reducible refine s_bd2 f1 ?_)
      dsimp only
      refine Eq.trans ?_ g3'
      refine congrArg _ ?_
      funext r19 v20
      simp only [nm, n_lit, n_add]
    rw [hk45] at hL
    exact hL
  · have := xD_draw W x row0 (M_placeThen (M_rn W)) (k := 50) (by decide) hF1.symm
    rw [← hWx, eah] at this
    exact this
  · unfold f_M_goesUntil
    exact g2
  · exact xD_draw W F1 row2 pt2 (k := 4) (by decide) hF2.symm
  · exact xD_draw W F2 row2 pt2 (k := 8) (by decide) hF3.symm
  · exact xD_draw W F3 row2 pt2 (k := 32) (by decide) hF4.symm
  · unfold f_M_goesUntil
    exact g4
