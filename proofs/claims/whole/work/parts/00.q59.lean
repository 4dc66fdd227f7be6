/-! LONG: class and model -/
set_option maxHeartbeats 8000000 in
theorem sim_longs {pr : T_Pg} {m : T_M} (hcf : RCf pr m) (tt : T_TT) (old : T_Pa) {rule told al : Nat} {a1 a2 a3 : Int32} (hal : al ≤ 200) (hA : (a1 = NN told ∧ a2 = -NN 1 ∧ rule = 0 ∧ told ≤ 40) ∨ (∃ k, k < 3 ∧ a1 = M_number (M_cd m) 0 ∧ a2 = NN k ∧ a3 = NN told ∧ rule = 3 + k ∧ told ≤ 8)) :
    ∃ x pa' row sz pt ex, f_TT_turnsTillDone tt old pr (NN rule) (NN told) (NN al) = some (x, pa') ∧ f_M_longs m a1 a2 a3 (NN al) = some (x, mZ m row (M_number (M_cd m) 0) sz pt ex (M_al m) (M_thrown m)) ∧ (∀ j, j < 314 → row j = M_s (M_rn m) j) ∧ (∀ k, k < 3 → sz k = M_number (M_cd m) (3 + k)) ∧
      (x = -NN 2 ∨ ∃ t, 1 ≤ t ∧ t ≤ 999 ∧ x = NN t) := by
  obtain ⟨g, eg, hg⟩ := M_copies1 (M_s (M_rn m)) (M_further (M_ex m))
  obtain ⟨v, hv⟩ : ∃ v : T_M, v = ((M_tp m), (M_rd m), (M_lf m), (M_cd m), (M_rn m), ((M_aside (M_ex m)), g, (M_shotAlarm (M_ex m)), (M_drawn (M_ex m))), (M_im m), (M_al m), (M_thrown m)) := ⟨_, rfl⟩
  obtain ⟨row0, sz0, eB, hsz0, hb0⟩ := M_begins1 v
  have hcdv : M_cd v = M_cd m := by rw [hv]; rfl
  rw [hcdv] at hsz0
  obtain ⟨V3, hV3⟩ : ∃ V3, V3 = mZ v row0 (M_number (M_cd v) 0) sz0 (M_placeThen (M_rn v)) (M_ex v) (M_al v) (M_thrown v) := ⟨_, rfl⟩
  rw [← hV3] at eB
  rw [hv] at eB
  obtain ⟨f5, hf5⟩ : ∃ f5 : Nat → Int32, (a2 = -NN 1 ∧ f5 = sz0) ∨ (∃ k, k < 3 ∧ a2 = NN k ∧ f5 = upd sz0 k a3) := by
    rcases hA with ⟨-, q, -, -⟩ | ⟨k, hk, -, q, -, -, -⟩
    · exact ⟨sz0, Or.inl ⟨q, rfl⟩⟩
    · exact ⟨upd sz0 k a3, Or.inr ⟨k, hk, q, rfl⟩⟩
  have hsV3 : M_sizeNow (M_rn V3) = sz0 := by rw [hV3]; rfl
  have hrV3 : M_s (M_rn V3) = row0 := by rw [hV3]; rfl
  obtain ⟨W, hW⟩ : ∃ W : T_M, W = ((M_tp V3), (M_rd V3), (M_lf V3), (M_cd V3), ((M_s (M_rn V3)), a1, f5, (M_placeThen (M_rn V3))), (M_ex V3), (M_im V3), (M_al V3), (M_thrown V3)) := ⟨_, rfl⟩
  have hcdW : M_cd W = M_cd m := by rw [hW, hV3, hv]; rfl
  have hrW : M_s (M_rn W) = row0 := by rw [hW, hV3]; rfl
  obtain ⟨pa1, eC, hBEG⟩ := C_begin old pr
  have hA2 : (a1 = NN told ∧ f5 = sz0 ∧ rule = 0 ∧ told ≤ 40) ∨ (∃ k, k < 3 ∧ a1 = M_number (M_cd m) 0 ∧ f5 = upd sz0 k (NN told) ∧ rule = 3 + k ∧ told ≤ 8) := by
    rcases hA with ⟨p1, p2, p3, p4⟩ | ⟨k, hk, p1, p2, p3, p4, p5⟩
    · rcases hf5 with ⟨q1, q2⟩ | ⟨k, hk, q1, q2⟩
      · exact Or.inl ⟨p1, q2, p3, p4⟩
      · exact absurd (q1.symm.trans p2) (by rw [n_negF (a := k) (b := 1) (by omega) (by omega)]; exact not_false)
    · rcases hf5 with ⟨q1, q2⟩ | ⟨k2, hk2, q1, q2⟩
      · exact absurd (p2.symm.trans q1) (by rw [n_negF (a := k) (b := 1) (by omega) (by omega)]; exact not_false)
      · have : k2 = k := n_inj (by omega) (by omega) (q1.symm.trans p2)
        subst this
        exact Or.inr ⟨k2, hk, p1, by rw [q2, p3], p4, p5⟩
  have hrl : rule < 8 := by rcases hA2 with ⟨-, -, q, -⟩ | ⟨k, hk, -, -, q, -⟩ <;> omega
  obtain ⟨n, sp, lo, hi, z0, z1, z2, tr, hcd, hru⟩ := RRu_W (W := W) hcf hBEG.1 hsz0 hcdW hA2 (by rw [hW]; rfl) (by rw [hW]; rfl)
  have hcdW2 : RCd pr W n := by
    have : RCd pr W n = RCd pr m n := by unfold RCd IS; rw [hcdW]
    rw [this]; exact hcd
  have hP := RPa_begin (m := W) (ru := upd (Pa_rules pa1) rule (NN told)) hBEG hcdW2 hru (by rw [hcdW]; exact RCf_data hcf) (by rw [hrW]; unfold bgRow at hb0 ⊢; rw [hcdW]; rw [hcdv] at hb0; exact hb0)
  rw [← mP_id W, hrW] at hP
  obtain ⟨K86, hK⟩ : ∃ K86 : T_M → Option (Int32 × T_M), K86 = (fun (v8 : T_M) => (nm (fun (y19 : Int32) => ((bd (f_M_copies (M_further (M_ex v8)) (M_s (M_rn v8))) fun (v21 : (Nat → Int32)) => (bd (f_M_asTold ((M_tp v8), (M_rd v8), (M_lf v8), (M_cd v8), (v21, (M_spanNow (M_rn v8)), (M_sizeNow (M_rn v8)), (M_placeThen (M_rn v8))), (M_ex v8), (M_im v8), (M_al v8), (M_thrown v8))) fun (v23 : T_M) => (some (y19, v23)))) : Option (Int32 × T_M))) fun J20 => (if ((M_s (M_rn v8)) (226 : Int32).toNatClampNeg) = (1 : Int32) then (J20 ((M_s (M_rn v8)) (219 : Int32).toNatClampNeg)) else (J20 (-2 : Int32))))) := ⟨_, rfl⟩
  have h219 : row0 219 = NN 0 := (hb0 219 (by omega)).trans (if_neg (by omega))
  obtain ⟨pa', row', pt', f0, f1⟩ := long_loop pr (fun x6 v7 => some (x6, v7)) (fun v8 => some (-2, v8)) K86 K86 W al hal 999 0 LF LF _ row0 (M_placeThen (M_rn W)) (by omega) (lf_big (by decide)) (lf_big (by decide)) hP hBEG.2.2.2.2.2.2.2.1 hBEG.2.2.2.2.2.2.2.2 h219
  have hfur : M_further (M_ex (mP W row' pt')) = g := by rw [hW, hV3, hv]; rfl
  have hrow' : M_s (M_rn (mP W row' pt')) = row' := rfl
  obtain ⟨g2, eg2, hg2⟩ := M_copies1 g row'
  have eg2' : f_M_copies (M_further (M_ex (mP W row' pt'))) (M_s (M_rn (mP W row' pt'))) = some g2 := by rw [hfur]; exact eg2
  obtain ⟨U, hU⟩ : ∃ U : T_M, U = ((M_tp (mP W row' pt')), (M_rd (mP W row' pt')), (M_lf (mP W row' pt')), (M_cd (mP W row' pt')), (g2, (M_spanNow (M_rn (mP W row' pt'))), (M_sizeNow (M_rn (mP W row' pt'))), (M_placeThen (M_rn (mP W row' pt')))), (M_ex (mP W row' pt')), (M_im (mP W row' pt')), (M_al (mP W row' pt')), (M_thrown (mP W row' pt'))) := ⟨_, rfl⟩
  obtain ⟨sz, eS, hsz⟩ := M_asTold1 U
  have hcdU : M_cd U = M_cd m := by rw [hU]; exact hcdW
  have hUm : mZ U (M_s (M_rn U)) (M_number (M_cd U) 0) sz (M_placeThen (M_rn U)) (M_ex U) (M_al U) (M_thrown U) = mZ m g2 (M_number (M_cd m) 0) sz pt' ((M_aside (M_ex m)), g, (M_shotAlarm (M_ex m)), (M_drawn (M_ex m))) (M_al m) (M_thrown m) := by
    rw [hU, hW, hV3, hv]; rfl
  rw [hUm] at eS
  rw [hU] at eS
  rw [hcdU] at hsz
  have hj : ∀ j, j < 314 → g2 j = M_s (M_rn m) j := fun j hj => (hg2 j hj).trans (hg j hj)
  have hC : f_TT_turnsTillDone tt old pr (NN rule) (NN told) (NN al) = f_TT_turnsTillDone_L27 pr (NN al) (fun x6 v7 => some (x6, v7)) (fun v8 => some (-2, v8)) (fun v8 => some (-2, v8)) LF (NN (0 + 1)) (upd (Pa_rules pa1) rule (NN told), Pa_leader pa1, Pa_trailer pa1, Pa_point pa1, Pa_queues pa1, Pa_outside pa1, Pa_tally pa1, Pa_done pa1, Pa_down pa1) := by
    unfold f_TT_turnsTillDone
    repeat first | (with_reducible refine s_nmj1 ?_) | (with_reducible refine s_nmj2 ?_) | ((with_reducible refine s_nm ?_); intro y_ hy_; (try simp (disch := omega) only [n_lit, n_add, n_mul, n_sub, n_tn, n_ltT, n_ltF, n_leT, n_leF, n_eqT, n_eqF, n_div, n_ixT, n_ixF, n_not, n_md, n_dec, n_and1, n_and3, n_and7, n_and15, n_and31, n_and63, Nat.mod_eq_of_lt, Nat.zero_add, Nat.add_zero, Nat.zero_mul, Nat.sub_zero, not_false_eq_true, not_true_eq_false, upd_at, upd_ne] at hy_); subst hy_) | ((with_reducible refine s_pos ?_ ?_); · simp (disch := omega) only [n_lit, n_add, n_mul, n_sub, n_tn, n_ltT, n_ltF, n_leT, n_leF, n_eqT, n_eqF, n_div, n_ixT, n_ixF, n_not, n_md, n_dec, n_and1, n_and3, n_and7, n_and15, n_and31, n_and63, Nat.mod_eq_of_lt, Nat.zero_add, Nat.add_zero, Nat.zero_mul, Nat.sub_zero, not_false_eq_true, not_true_eq_false, upd_at, upd_ne]) | ((with_reducible refine s_neg ?_ ?_); · simp (disch := omega) only [n_lit, n_add, n_mul, n_sub, n_tn, n_ltT, n_ltF, n_leT, n_leF, n_eqT, n_eqF, n_div, n_ixT, n_ixF, n_not, n_md, n_dec, n_and1, n_and3, n_and7, n_and15, n_and31, n_and63, Nat.mod_eq_of_lt, Nat.zero_add, Nat.add_zero, Nat.zero_mul, Nat.sub_zero, not_false_eq_true, not_true_eq_false, upd_at, upd_ne])  | (with_reducible refine s_bd eC ?_)
    rfl
  have hM : f_M_longs m a1 a2 a3 (NN al) = f_M_longs_L32 (NN al) K86 K86 LF (mP W row0 (M_placeThen (M_rn W))) := by
    rw [← hrW, mP_id]
    rw [hK]
    unfold f_M_longs
    rcases hf5 with ⟨q1, q2⟩ | ⟨k, hk, q1, q2⟩
    · subst q1
      repeat first | (with_reducible refine s_nmj1 ?_) | (with_reducible refine s_nmj2 ?_) | ((with_reducible refine s_nm ?_); intro y_ hy_; (try simp (disch := omega) only [n_lit, n_add, n_mul, n_sub, n_tn, n_ltT, n_ltF, n_leT, n_leF, n_eqT, n_eqF, n_div, n_ixT, n_ixF, n_not, n_md, n_dec, n_and1, n_and3, n_and7, n_and15, n_and31, n_and63, Nat.mod_eq_of_lt, Nat.zero_add, Nat.add_zero, Nat.zero_mul, Nat.sub_zero, not_false_eq_true, not_true_eq_false, upd_at, upd_ne] at hy_); subst hy_) | ((with_reducible refine s_pos ?_ ?_); · simp (disch := omega) only [n_lit, n_add, n_mul, n_sub, n_tn, n_ltT, n_ltF, n_leT, n_leF, n_eqT, n_eqF, n_div, n_ixT, n_ixF, n_not, n_md, n_dec, n_and1, n_and3, n_and7, n_and15, n_and31, n_and63, Nat.mod_eq_of_lt, Nat.zero_add, Nat.add_zero, Nat.zero_mul, Nat.sub_zero, not_false_eq_true, not_true_eq_false, upd_at, upd_ne]) | ((with_reducible refine s_neg ?_ ?_); · simp (disch := omega) only [n_lit, n_add, n_mul, n_sub, n_tn, n_ltT, n_ltF, n_leT, n_leF, n_eqT, n_eqF, n_div, n_ixT, n_ixF, n_not, n_md, n_dec, n_and1, n_and3, n_and7, n_and15, n_and31, n_and63, Nat.mod_eq_of_lt, Nat.zero_add, Nat.add_zero, Nat.zero_mul, Nat.sub_zero, not_false_eq_true, not_true_eq_false, upd_at, upd_ne])  | (with_reducible refine s_bd eg ?_) | (with_reducible refine s_bd eB ?_) | ((with_reducible refine s_pos ?_ ?_); · rfl)
      rw [hsV3, ← q2]; dsimp only; rw [← hW]
    · subst q1
      have z := n_negF (a := k) (b := 1) (by omega) (by omega)
      repeat first | (with_reducible refine s_nmj1 ?_) | (with_reducible refine s_nmj2 ?_) | ((with_reducible refine s_nm ?_); intro y_ hy_; (try simp (disch := omega) only [n_lit, n_add, n_mul, n_sub, n_tn, n_ltT, n_ltF, n_leT, n_leF, n_eqT, n_eqF, n_div, n_ixT, n_ixF, n_not, n_md, n_dec, n_and1, n_and3, n_and7, n_and15, n_and31, n_and63, Nat.mod_eq_of_lt, Nat.zero_add, Nat.add_zero, Nat.zero_mul, Nat.sub_zero, not_false_eq_true, not_true_eq_false, upd_at, upd_ne, z, hsV3] at hy_); subst hy_) | ((with_reducible refine s_pos ?_ ?_); · simp (disch := omega) only [n_lit, n_add, n_mul, n_sub, n_tn, n_ltT, n_ltF, n_leT, n_leF, n_eqT, n_eqF, n_div, n_ixT, n_ixF, n_not, n_md, n_dec, n_and1, n_and3, n_and7, n_and15, n_and31, n_and63, Nat.mod_eq_of_lt, Nat.zero_add, Nat.add_zero, Nat.zero_mul, Nat.sub_zero, not_false_eq_true, not_true_eq_false, upd_at, upd_ne, z, hsV3]) | ((with_reducible refine s_neg ?_ ?_); · simp (disch := omega) only [n_lit, n_add, n_mul, n_sub, n_tn, n_ltT, n_ltF, n_leT, n_leF, n_eqT, n_eqF, n_div, n_ixT, n_ixF, n_not, n_md, n_dec, n_and1, n_and3, n_and7, n_and15, n_and31, n_and63, Nat.mod_eq_of_lt, Nat.zero_add, Nat.add_zero, Nat.zero_mul, Nat.sub_zero, not_false_eq_true, not_true_eq_false, upd_at, upd_ne, z, hsV3])  | (with_reducible refine s_bd eg ?_) | (with_reducible refine s_bd eB ?_)
      rw [← q2]; dsimp only; rw [← hW]
  rcases f1 with ⟨t', t1, t2, f1, f2, f3, f4⟩ | ⟨f1, f2, f3⟩
  · refine ⟨NN t', pa', g2, sz, pt', ((M_aside (M_ex m)), g, (M_shotAlarm (M_ex m)), (M_drawn (M_ex m))), hC.trans f1, ?_, hj, hsz, Or.inr ⟨t', t1, t2, rfl⟩⟩
    rw [hM, f2, hK]
    repeat first | (with_reducible refine s_nmj1 ?_) | (with_reducible refine s_nmj2 ?_) | ((with_reducible refine s_nm ?_); intro y_ hy_; (try simp (disch := omega) only [n_lit, n_add, n_mul, n_sub, n_tn, n_ltT, n_ltF, n_leT, n_leF, n_eqT, n_eqF, n_div, n_ixT, n_ixF, n_not, n_md, n_dec, n_and1, n_and3, n_and7, n_and15, n_and31, n_and63, Nat.mod_eq_of_lt, Nat.zero_add, Nat.add_zero, Nat.zero_mul, Nat.sub_zero, not_false_eq_true, not_true_eq_false, upd_at, upd_ne, hrow', f3, f4] at hy_); subst hy_) | ((with_reducible refine s_pos ?_ ?_); · simp (disch := omega) only [n_lit, n_add, n_mul, n_sub, n_tn, n_ltT, n_ltF, n_leT, n_leF, n_eqT, n_eqF, n_div, n_ixT, n_ixF, n_not, n_md, n_dec, n_and1, n_and3, n_and7, n_and15, n_and31, n_and63, Nat.mod_eq_of_lt, Nat.zero_add, Nat.add_zero, Nat.zero_mul, Nat.sub_zero, not_false_eq_true, not_true_eq_false, upd_at, upd_ne, hrow', f3, f4]) | ((with_reducible refine s_neg ?_ ?_); · simp (disch := omega) only [n_lit, n_add, n_mul, n_sub, n_tn, n_ltT, n_ltF, n_leT, n_leF, n_eqT, n_eqF, n_div, n_ixT, n_ixF, n_not, n_md, n_dec, n_and1, n_and3, n_and7, n_and15, n_and31, n_and63, Nat.mod_eq_of_lt, Nat.zero_add, Nat.add_zero, Nat.zero_mul, Nat.sub_zero, not_false_eq_true, not_true_eq_false, upd_at, upd_ne, hrow', f3, f4])  | (with_reducible refine s_bd eg2' ?_) | (with_reducible refine s_bd eS ?_)
    rw [hrow', show row' (Int32.toNatClampNeg 219) = NN t' from f4]
  · refine ⟨-NN 2, pa', g2, sz, pt', ((M_aside (M_ex m)), g, (M_shotAlarm (M_ex m)), (M_drawn (M_ex m))), hC.trans f1, ?_, hj, hsz, Or.inl rfl⟩
    rw [hM, f2, hK]
    repeat first | (with_reducible refine s_nmj1 ?_) | (with_reducible refine s_nmj2 ?_) | ((with_reducible refine s_nm ?_); intro y_ hy_; (try simp (disch := omega) only [n_lit, n_add, n_mul, n_sub, n_tn, n_ltT, n_ltF, n_leT, n_leF, n_eqT, n_eqF, n_div, n_ixT, n_ixF, n_not, n_md, n_dec, n_and1, n_and3, n_and7, n_and15, n_and31, n_and63, Nat.mod_eq_of_lt, Nat.zero_add, Nat.add_zero, Nat.zero_mul, Nat.sub_zero, not_false_eq_true, not_true_eq_false, upd_at, upd_ne, hrow', f3] at hy_); subst hy_) | ((with_reducible refine s_pos ?_ ?_); · simp (disch := omega) only [n_lit, n_add, n_mul, n_sub, n_tn, n_ltT, n_ltF, n_leT, n_leF, n_eqT, n_eqF, n_div, n_ixT, n_ixF, n_not, n_md, n_dec, n_and1, n_and3, n_and7, n_and15, n_and31, n_and63, Nat.mod_eq_of_lt, Nat.zero_add, Nat.add_zero, Nat.zero_mul, Nat.sub_zero, not_false_eq_true, not_true_eq_false, upd_at, upd_ne, hrow', f3]) | ((with_reducible refine s_neg ?_ ?_); · simp (disch := omega) only [n_lit, n_add, n_mul, n_sub, n_tn, n_ltT, n_ltF, n_leT, n_leF, n_eqT, n_eqF, n_div, n_ixT, n_ixF, n_not, n_md, n_dec, n_and1, n_and3, n_and7, n_and15, n_and31, n_and63, Nat.mod_eq_of_lt, Nat.zero_add, Nat.add_zero, Nat.zero_mul, Nat.sub_zero, not_false_eq_true, not_true_eq_false, upd_at, upd_ne, hrow', f3])  | (with_reducible refine s_bd eg2' ?_) | (with_reducible refine s_bd eS ?_)
    rfl
