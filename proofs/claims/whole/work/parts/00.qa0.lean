/-! FEED -/
theorem bit255 (i : Nat) : (NN 255).toBitVec.getLsbD i = decide (i < 8) := by
  by_cases h : i < 32
  · have : ∀ i, i < 32 → (NN 255).toBitVec.getLsbD i = decide (i < 8) := by decide
    exact this i h
  · rw [BitVec.getLsbD_of_ge _ _ (by omega)]
    simp only [Bool.false_eq, decide_eq_false_iff_not]
    omega
theorem byte_and (z : Int32) : z.toInt8.toInt32 &&& NN 255 = z &&& NN 255 := by
  apply Int32.toBitVec_inj.mp
  rw [Int32.toBitVec_and, Int32.toBitVec_and, Int8.toBitVec_toInt32, Int32.toBitVec_toInt8]
  apply BitVec.eq_of_getLsbD_eq
  intro i hi
  rw [BitVec.getLsbD_and, BitVec.getLsbD_and, bit255]
  by_cases g : i < 8
  · rw [BitVec.getLsbD_signExtend, if_pos g, BitVec.getLsbD_signExtend, if_pos hi]
    simp [g, hi]
  · simp [g]
theorem byte_nar (z : Int32) : vp_nar .byte (z.toInt8.toInt32) &&& NN 255 = z &&& NN 255 := by
  rw [vp_nar_byte, byte_and, byte_and]
theorem and255 (x : Int32) : ∃ n, n < 256 ∧ x &&& NN 255 = NN n := by
  have h : ix (x &&& 255) 256 := pk_andIn x 8 (by decide) (by decide)
  have h2 : ¬ ((x &&& 255) < 0 ∨ 256 ≤ (x &&& 255).toNatClampNeg) := h
  have h0 : (0 : Int32) ≤ (x &&& 255) := Int32.not_lt.mp (fun h => h2 (Or.inl h))
  exact ⟨(x &&& 255).toNatClampNeg, by omega, n_of _ h0⟩
theorem C_append {rd : T_Rd} {cap : Nat} (h : Rd_filled rd = NN cap) (hc : cap + 4 ≤ 700) (a : Int32) :
    ∃ tp, f_Rd_append rd a = some (tp, NN (cap + 4), (Rd_fault rd), (Rd_faultPlace rd), (Rd_words rd), (Rd_sorts rd), (Rd_parts rd), (Rd_wantedPlaces rd), (Rd_limit rd), (Rd_position rd), (Rd_token rd), (Rd_value rd), (Rd_place rd), (Rd_toldRules rd), (Rd_toldData rd)) ∧ (∀ j, j < cap → tp j = Rd_tape rd j) ∧ ∀ i, i < 4 → tp (cap + i) &&& NN 255 = (a >>> NN (24 - 8 * i)) &&& NN 255 := by
  obtain ⟨q, hq⟩ : ∃ q, LF = q + 5 := ⟨LF - 5, by have := lf_big (d := 10) (by decide); omega⟩
  refine ⟨upd (upd (upd (upd (Rd_tape rd) cap (vp_nar .byte (a >>> NN 24).toInt8.toInt32)) (cap + 1) (vp_nar .byte (a >>> NN 16).toInt8.toInt32)) (cap + 2) (vp_nar .byte (a >>> NN 8).toInt8.toInt32)) (cap + 3) (vp_nar .byte (a >>> NN 0).toInt8.toInt32), ?_, ?_, ?_⟩
  · unfold f_Rd_append
    rw [h, hq]
    have w0 : NN 24 + -NN 8 = NN 16 := by decide
    have w1 : NN 16 + -NN 8 = NN 8 := by decide
    have w2 : NN 8 + -NN 8 = NN 0 := by decide
    have w3 : NN 0 + -NN 8 = -NN 8 := by decide
    have w4 : NN 24 &&& NN 31 = NN 24 := by decide
    have w5 : NN 16 &&& NN 31 = NN 16 := by decide
    have w6 : NN 8 &&& NN 31 = NN 8 := by decide
    have w7 : NN 0 &&& NN 31 = NN 0 := by decide
    have w8 : (-NN 8 < NN 0) = True := by decide
    rw [f_Rd_append_L3]
    repeat first | (with_reducible refine s_nmj1 ?_) | (with_reducible refine s_nmj2 ?_) | ((with_reducible refine s_nm ?_); intro y_ hy_; (try simp (disch := omega) only [n_lit, n_add, n_mul, n_sub, n_tn, n_ltT, n_ltF, n_leT, n_leF, n_eqT, n_eqF, n_div, n_ixT, n_ixF, n_not, n_md, n_dec, n_and1, n_and3, n_and7, n_and15, n_and31, n_and63, Nat.mod_eq_of_lt, Nat.zero_add, Nat.add_zero, Nat.zero_mul, Nat.sub_zero, not_false_eq_true, not_true_eq_false, upd_at, upd_ne, w0, w4] at hy_); subst hy_) | ((with_reducible refine s_pos ?_ ?_); · simp (disch := omega) only [n_lit, n_add, n_mul, n_sub, n_tn, n_ltT, n_ltF, n_leT, n_leF, n_eqT, n_eqF, n_div, n_ixT, n_ixF, n_not, n_md, n_dec, n_and1, n_and3, n_and7, n_and15, n_and31, n_and63, Nat.mod_eq_of_lt, Nat.zero_add, Nat.add_zero, Nat.zero_mul, Nat.sub_zero, not_false_eq_true, not_true_eq_false, upd_at, upd_ne, w0, w4]) | ((with_reducible refine s_neg ?_ ?_); · simp (disch := omega) only [n_lit, n_add, n_mul, n_sub, n_tn, n_ltT, n_ltF, n_leT, n_leF, n_eqT, n_eqF, n_div, n_ixT, n_ixF, n_not, n_md, n_dec, n_and1, n_and3, n_and7, n_and15, n_and31, n_and63, Nat.mod_eq_of_lt, Nat.zero_add, Nat.add_zero, Nat.zero_mul, Nat.sub_zero, not_false_eq_true, not_true_eq_false, upd_at, upd_ne, w0, w4]) 
    rw [f_Rd_append_L3]
    repeat first | (with_reducible refine s_nmj1 ?_) | (with_reducible refine s_nmj2 ?_) | ((with_reducible refine s_nm ?_); intro y_ hy_; (try simp (disch := omega) only [n_lit, n_add, n_mul, n_sub, n_tn, n_ltT, n_ltF, n_leT, n_leF, n_eqT, n_eqF, n_div, n_ixT, n_ixF, n_not, n_md, n_dec, n_and1, n_and3, n_and7, n_and15, n_and31, n_and63, Nat.mod_eq_of_lt, Nat.zero_add, Nat.add_zero, Nat.zero_mul, Nat.sub_zero, not_false_eq_true, not_true_eq_false, upd_at, upd_ne, w1, w5] at hy_); subst hy_) | ((with_reducible refine s_pos ?_ ?_); · simp (disch := omega) only [n_lit, n_add, n_mul, n_sub, n_tn, n_ltT, n_ltF, n_leT, n_leF, n_eqT, n_eqF, n_div, n_ixT, n_ixF, n_not, n_md, n_dec, n_and1, n_and3, n_and7, n_and15, n_and31, n_and63, Nat.mod_eq_of_lt, Nat.zero_add, Nat.add_zero, Nat.zero_mul, Nat.sub_zero, not_false_eq_true, not_true_eq_false, upd_at, upd_ne, w1, w5]) | ((with_reducible refine s_neg ?_ ?_); · simp (disch := omega) only [n_lit, n_add, n_mul, n_sub, n_tn, n_ltT, n_ltF, n_leT, n_leF, n_eqT, n_eqF, n_div, n_ixT, n_ixF, n_not, n_md, n_dec, n_and1, n_and3, n_and7, n_and15, n_and31, n_and63, Nat.mod_eq_of_lt, Nat.zero_add, Nat.add_zero, Nat.zero_mul, Nat.sub_zero, not_false_eq_true, not_true_eq_false, upd_at, upd_ne, w1, w5]) 
    rw [f_Rd_append_L3]
    repeat first | (with_reducible refine s_nmj1 ?_) | (with_reducible refine s_nmj2 ?_) | ((with_reducible refine s_nm ?_); intro y_ hy_; (try simp (disch := omega) only [n_lit, n_add, n_mul, n_sub, n_tn, n_ltT, n_ltF, n_leT, n_leF, n_eqT, n_eqF, n_div, n_ixT, n_ixF, n_not, n_md, n_dec, n_and1, n_and3, n_and7, n_and15, n_and31, n_and63, Nat.mod_eq_of_lt, Nat.zero_add, Nat.add_zero, Nat.zero_mul, Nat.sub_zero, not_false_eq_true, not_true_eq_false, upd_at, upd_ne, w2, w6] at hy_); subst hy_) | ((with_reducible refine s_pos ?_ ?_); · simp (disch := omega) only [n_lit, n_add, n_mul, n_sub, n_tn, n_ltT, n_ltF, n_leT, n_leF, n_eqT, n_eqF, n_div, n_ixT, n_ixF, n_not, n_md, n_dec, n_and1, n_and3, n_and7, n_and15, n_and31, n_and63, Nat.mod_eq_of_lt, Nat.zero_add, Nat.add_zero, Nat.zero_mul, Nat.sub_zero, not_false_eq_true, not_true_eq_false, upd_at, upd_ne, w2, w6]) | ((with_reducible refine s_neg ?_ ?_); · simp (disch := omega) only [n_lit, n_add, n_mul, n_sub, n_tn, n_ltT, n_ltF, n_leT, n_leF, n_eqT, n_eqF, n_div, n_ixT, n_ixF, n_not, n_md, n_dec, n_and1, n_and3, n_and7, n_and15, n_and31, n_and63, Nat.mod_eq_of_lt, Nat.zero_add, Nat.add_zero, Nat.zero_mul, Nat.sub_zero, not_false_eq_true, not_true_eq_false, upd_at, upd_ne, w2, w6]) 
    rw [f_Rd_append_L3]
    repeat first | (with_reducible refine s_nmj1 ?_) | (with_reducible refine s_nmj2 ?_) | ((with_reducible refine s_nm ?_); intro y_ hy_; (try simp (disch := omega) only [n_lit, n_add, n_mul, n_sub, n_tn, n_ltT, n_ltF, n_leT, n_leF, n_eqT, n_eqF, n_div, n_ixT, n_ixF, n_not, n_md, n_dec, n_and1, n_and3, n_and7, n_and15, n_and31, n_and63, Nat.mod_eq_of_lt, Nat.zero_add, Nat.add_zero, Nat.zero_mul, Nat.sub_zero, not_false_eq_true, not_true_eq_false, upd_at, upd_ne, w3, w7] at hy_); subst hy_) | ((with_reducible refine s_pos ?_ ?_); · simp (disch := omega) only [n_lit, n_add, n_mul, n_sub, n_tn, n_ltT, n_ltF, n_leT, n_leF, n_eqT, n_eqF, n_div, n_ixT, n_ixF, n_not, n_md, n_dec, n_and1, n_and3, n_and7, n_and15, n_and31, n_and63, Nat.mod_eq_of_lt, Nat.zero_add, Nat.add_zero, Nat.zero_mul, Nat.sub_zero, not_false_eq_true, not_true_eq_false, upd_at, upd_ne, w3, w7]) | ((with_reducible refine s_neg ?_ ?_); · simp (disch := omega) only [n_lit, n_add, n_mul, n_sub, n_tn, n_ltT, n_ltF, n_leT, n_leF, n_eqT, n_eqF, n_div, n_ixT, n_ixF, n_not, n_md, n_dec, n_and1, n_and3, n_and7, n_and15, n_and31, n_and63, Nat.mod_eq_of_lt, Nat.zero_add, Nat.add_zero, Nat.zero_mul, Nat.sub_zero, not_false_eq_true, not_true_eq_false, upd_at, upd_ne, w3, w7]) 
    rw [f_Rd_append_L3]
    repeat first | (with_reducible refine s_nmj1 ?_) | (with_reducible refine s_nmj2 ?_) | ((with_reducible refine s_nm ?_); intro y_ hy_; (try simp (disch := omega) only [n_lit, n_add, n_mul, n_sub, n_tn, n_ltT, n_ltF, n_leT, n_leF, n_eqT, n_eqF, n_div, n_ixT, n_ixF, n_not, n_md, n_dec, n_and1, n_and3, n_and7, n_and15, n_and31, n_and63, Nat.mod_eq_of_lt, Nat.zero_add, Nat.add_zero, Nat.zero_mul, Nat.sub_zero, not_false_eq_true, not_true_eq_false, upd_at, upd_ne, w8] at hy_); subst hy_) | ((with_reducible refine s_pos ?_ ?_); · simp (disch := omega) only [n_lit, n_add, n_mul, n_sub, n_tn, n_ltT, n_ltF, n_leT, n_leF, n_eqT, n_eqF, n_div, n_ixT, n_ixF, n_not, n_md, n_dec, n_and1, n_and3, n_and7, n_and15, n_and31, n_and63, Nat.mod_eq_of_lt, Nat.zero_add, Nat.add_zero, Nat.zero_mul, Nat.sub_zero, not_false_eq_true, not_true_eq_false, upd_at, upd_ne, w8]) | ((with_reducible refine s_neg ?_ ?_); · simp (disch := omega) only [n_lit, n_add, n_mul, n_sub, n_tn, n_ltT, n_ltF, n_leT, n_leF, n_eqT, n_eqF, n_div, n_ixT, n_ixF, n_not, n_md, n_dec, n_and1, n_and3, n_and7, n_and15, n_and31, n_and63, Nat.mod_eq_of_lt, Nat.zero_add, Nat.add_zero, Nat.zero_mul, Nat.sub_zero, not_false_eq_true, not_true_eq_false, upd_at, upd_ne, w8]) 
    rfl
  · intro j hj
    rw [upd_ne (by omega), upd_ne (by omega), upd_ne (by omega), upd_ne (by omega)]
  · intro i hi
    have hh : i = 0 ∨ i = 1 ∨ i = 2 ∨ i = 3 := by omega
    rcases hh with rfl | rfl | rfl | rfl
    · rw [upd_ne (by omega), upd_ne (by omega), upd_ne (by omega), upd_at (by omega)]; exact byte_nar _
    · rw [upd_ne (by omega), upd_ne (by omega), upd_at rfl]; exact byte_nar _
    · rw [upd_ne (by omega), upd_at rfl]; exact byte_nar _
    · rw [upd_at rfl]; exact byte_nar _
def ag (a1 a2 a3 a4 a5 : Int32) (i : Nat) : Int32 := if i = 0 then a1 else if i = 1 then a2 else if i = 2 then a3 else if i = 3 then a4 else a5
def bto (a1 a2 a3 a4 a5 : Int32) (x : Nat) : Int32 := (ag a1 a2 a3 a4 a5 (x / 4) >>> NN (24 - 8 * (x % 4))) &&& NN 255
theorem C_feed {rd : T_Rd} {cap : Nat} (h : Rd_filled rd = NN cap) (hc : cap ≤ 680) (tt : T_TT) (a1 a2 a3 a4 a5 : Int32) :
    ∃ rd', f_TT_feed tt rd a1 a2 a3 a4 a5 = some (NN (cap + 20), rd') ∧ Rd_filled rd' = NN (cap + 20) ∧ Rd_fault rd' = Rd_fault rd ∧ Rd_faultPlace rd' = Rd_faultPlace rd ∧ Rd_words rd' = Rd_words rd ∧ Rd_sorts rd' = Rd_sorts rd ∧ (∀ j, j < cap → Rd_tape rd' j = Rd_tape rd j) ∧ ∀ x, x < 20 → Rd_tape rd' (cap + x) &&& NN 255 = bto a1 a2 a3 a4 a5 x := by
  have hr : f_Rd_hasRoom rd = some (NN 1) := by
    unfold f_Rd_hasRoom
    rw [h]
    repeat first | (with_reducible refine s_nmj1 ?_) | (with_reducible refine s_nmj2 ?_) | ((with_reducible refine s_nm ?_); intro y_ hy_; (try simp (disch := omega) only [n_lit, n_add, n_mul, n_sub, n_tn, n_ltT, n_ltF, n_leT, n_leF, n_eqT, n_eqF, n_div, n_ixT, n_ixF, n_not, n_md, n_dec, n_and1, n_and3, n_and7, n_and15, n_and31, n_and63, Nat.mod_eq_of_lt, Nat.zero_add, Nat.add_zero, Nat.zero_mul, Nat.sub_zero, not_false_eq_true, not_true_eq_false, upd_at, upd_ne] at hy_); subst hy_) | ((with_reducible refine s_pos ?_ ?_); · simp (disch := omega) only [n_lit, n_add, n_mul, n_sub, n_tn, n_ltT, n_ltF, n_leT, n_leF, n_eqT, n_eqF, n_div, n_ixT, n_ixF, n_not, n_md, n_dec, n_and1, n_and3, n_and7, n_and15, n_and31, n_and63, Nat.mod_eq_of_lt, Nat.zero_add, Nat.add_zero, Nat.zero_mul, Nat.sub_zero, not_false_eq_true, not_true_eq_false, upd_at, upd_ne]) | ((with_reducible refine s_neg ?_ ?_); · simp (disch := omega) only [n_lit, n_add, n_mul, n_sub, n_tn, n_ltT, n_ltF, n_leT, n_leF, n_eqT, n_eqF, n_div, n_ixT, n_ixF, n_not, n_md, n_dec, n_and1, n_and3, n_and7, n_and15, n_and31, n_and63, Nat.mod_eq_of_lt, Nat.zero_add, Nat.add_zero, Nat.zero_mul, Nat.sub_zero, not_false_eq_true, not_true_eq_false, upd_at, upd_ne]) 
    rfl
  obtain ⟨t1, e1, u1, v1⟩ := C_append h (by omega) a1
  obtain ⟨r1, hr1⟩ : ∃ r1 : T_Rd, r1 = (t1, NN (cap + 4), (Rd_fault rd), (Rd_faultPlace rd), (Rd_words rd), (Rd_sorts rd), (Rd_parts rd), (Rd_wantedPlaces rd), (Rd_limit rd), (Rd_position rd), (Rd_token rd), (Rd_value rd), (Rd_place rd), (Rd_toldRules rd), (Rd_toldData rd)) := ⟨_, rfl⟩
  rw [← hr1] at e1
  have k1 : Rd_filled r1 = NN (cap + 4) ∧ Rd_fault r1 = Rd_fault rd ∧ Rd_faultPlace r1 = Rd_faultPlace rd ∧ Rd_words r1 = Rd_words rd ∧ Rd_sorts r1 = Rd_sorts rd ∧ Rd_tape r1 = t1 := by rw [hr1]; exact ⟨rfl, rfl, rfl, rfl, rfl, rfl⟩
  obtain ⟨t2, e2, u2, v2⟩ := C_append k1.1 (by omega) a2
  obtain ⟨r2, hr2⟩ : ∃ r2 : T_Rd, r2 = (t2, NN (cap + 4 + 4), (Rd_fault r1), (Rd_faultPlace r1), (Rd_words r1), (Rd_sorts r1), (Rd_parts r1), (Rd_wantedPlaces r1), (Rd_limit r1), (Rd_position r1), (Rd_token r1), (Rd_value r1), (Rd_place r1), (Rd_toldRules r1), (Rd_toldData r1)) := ⟨_, rfl⟩
  rw [← hr2] at e2
  have k2 : Rd_filled r2 = NN (cap + 4 + 4) ∧ Rd_fault r2 = Rd_fault r1 ∧ Rd_faultPlace r2 = Rd_faultPlace r1 ∧ Rd_words r2 = Rd_words r1 ∧ Rd_sorts r2 = Rd_sorts r1 ∧ Rd_tape r2 = t2 := by rw [hr2]; exact ⟨rfl, rfl, rfl, rfl, rfl, rfl⟩
  obtain ⟨t3, e3, u3, v3⟩ := C_append k2.1 (by omega) a3
  obtain ⟨r3, hr3⟩ : ∃ r3 : T_Rd, r3 = (t3, NN (cap + 4 + 4 + 4), (Rd_fault r2), (Rd_faultPlace r2), (Rd_words r2), (Rd_sorts r2), (Rd_parts r2), (Rd_wantedPlaces r2), (Rd_limit r2), (Rd_position r2), (Rd_token r2), (Rd_value r2), (Rd_place r2), (Rd_toldRules r2), (Rd_toldData r2)) := ⟨_, rfl⟩
  rw [← hr3] at e3
  have k3 : Rd_filled r3 = NN (cap + 4 + 4 + 4) ∧ Rd_fault r3 = Rd_fault r2 ∧ Rd_faultPlace r3 = Rd_faultPlace r2 ∧ Rd_words r3 = Rd_words r2 ∧ Rd_sorts r3 = Rd_sorts r2 ∧ Rd_tape r3 = t3 := by rw [hr3]; exact ⟨rfl, rfl, rfl, rfl, rfl, rfl⟩
  obtain ⟨t4, e4, u4, v4⟩ := C_append k3.1 (by omega) a4
  obtain ⟨r4, hr4⟩ : ∃ r4 : T_Rd, r4 = (t4, NN (cap + 4 + 4 + 4 + 4), (Rd_fault r3), (Rd_faultPlace r3), (Rd_words r3), (Rd_sorts r3), (Rd_parts r3), (Rd_wantedPlaces r3), (Rd_limit r3), (Rd_position r3), (Rd_token r3), (Rd_value r3), (Rd_place r3), (Rd_toldRules r3), (Rd_toldData r3)) := ⟨_, rfl⟩
  rw [← hr4] at e4
  have k4 : Rd_filled r4 = NN (cap + 4 + 4 + 4 + 4) ∧ Rd_fault r4 = Rd_fault r3 ∧ Rd_faultPlace r4 = Rd_faultPlace r3 ∧ Rd_words r4 = Rd_words r3 ∧ Rd_sorts r4 = Rd_sorts r3 ∧ Rd_tape r4 = t4 := by rw [hr4]; exact ⟨rfl, rfl, rfl, rfl, rfl, rfl⟩
  obtain ⟨t5, e5, u5, v5⟩ := C_append k4.1 (by omega) a5
  obtain ⟨r5, hr5⟩ : ∃ r5 : T_Rd, r5 = (t5, NN (cap + 4 + 4 + 4 + 4 + 4), (Rd_fault r4), (Rd_faultPlace r4), (Rd_words r4), (Rd_sorts r4), (Rd_parts r4), (Rd_wantedPlaces r4), (Rd_limit r4), (Rd_position r4), (Rd_token r4), (Rd_value r4), (Rd_place r4), (Rd_toldRules r4), (Rd_toldData r4)) := ⟨_, rfl⟩
  rw [← hr5] at e5
  have k5 : Rd_filled r5 = NN (cap + 20) ∧ Rd_fault r5 = Rd_fault r4 ∧ Rd_faultPlace r5 = Rd_faultPlace r4 ∧ Rd_words r5 = Rd_words r4 ∧ Rd_sorts r5 = Rd_sorts r4 ∧ Rd_tape r5 = t5 := by rw [hr5]; exact ⟨rfl, rfl, rfl, rfl, rfl, rfl⟩
  rw [k1.2.2.2.2.2] at u2
  rw [k2.2.2.2.2.2] at u3
  rw [k3.2.2.2.2.2] at u4
  rw [k4.2.2.2.2.2] at u5
  refine ⟨r5, ?_, k5.1, k5.2.1.trans (k4.2.1.trans (k3.2.1.trans (k2.2.1.trans k1.2.1))), k5.2.2.1.trans (k4.2.2.1.trans (k3.2.2.1.trans (k2.2.2.1.trans k1.2.2.1))), k5.2.2.2.1.trans (k4.2.2.2.1.trans (k3.2.2.2.1.trans (k2.2.2.2.1.trans k1.2.2.2.1))), k5.2.2.2.2.1.trans (k4.2.2.2.2.1.trans (k3.2.2.2.2.1.trans (k2.2.2.2.2.1.trans k1.2.2.2.2.1))), ?_, ?_⟩
  · unfold f_TT_feed
    refine s_bd hr ?_
    repeat first | (with_reducible refine s_nmj1 ?_) | (with_reducible refine s_nmj2 ?_) | ((with_reducible refine s_nm ?_); intro y_ hy_; (try simp (disch := omega) only [n_lit, n_add, n_mul, n_sub, n_tn, n_ltT, n_ltF, n_leT, n_leF, n_eqT, n_eqF, n_div, n_ixT, n_ixF, n_not, n_md, n_dec, n_and1, n_and3, n_and7, n_and15, n_and31, n_and63, Nat.mod_eq_of_lt, Nat.zero_add, Nat.add_zero, Nat.zero_mul, Nat.sub_zero, not_false_eq_true, not_true_eq_false, upd_at, upd_ne] at hy_); subst hy_) | ((with_reducible refine s_pos ?_ ?_); · simp (disch := omega) only [n_lit, n_add, n_mul, n_sub, n_tn, n_ltT, n_ltF, n_leT, n_leF, n_eqT, n_eqF, n_div, n_ixT, n_ixF, n_not, n_md, n_dec, n_and1, n_and3, n_and7, n_and15, n_and31, n_and63, Nat.mod_eq_of_lt, Nat.zero_add, Nat.add_zero, Nat.zero_mul, Nat.sub_zero, not_false_eq_true, not_true_eq_false, upd_at, upd_ne]) | ((with_reducible refine s_neg ?_ ?_); · simp (disch := omega) only [n_lit, n_add, n_mul, n_sub, n_tn, n_ltT, n_ltF, n_leT, n_leF, n_eqT, n_eqF, n_div, n_ixT, n_ixF, n_not, n_md, n_dec, n_and1, n_and3, n_and7, n_and15, n_and31, n_and63, Nat.mod_eq_of_lt, Nat.zero_add, Nat.add_zero, Nat.zero_mul, Nat.sub_zero, not_false_eq_true, not_true_eq_false, upd_at, upd_ne])  | (with_reducible refine s_bd e1 ?_) | (with_reducible refine s_bd e2 ?_) | (with_reducible refine s_bd e3 ?_) | (with_reducible refine s_bd e4 ?_) | (with_reducible refine s_bd e5 ?_)
    rw [k5.1]
  · intro j hj
    rw [k5.2.2.2.2.2, u5 j (by omega), u4 j (by omega), u3 j (by omega), u2 j (by omega), u1 j hj]
  · intro x hx
    rw [k5.2.2.2.2.2]
    unfold bto
    by_cases g1 : x < 4
    · have := v1 x g1
      rw [u5 _ (by omega), u4 _ (by omega), u3 _ (by omega), u2 _ (by omega), this, show x / 4 = 0 by omega, show x % 4 = x by omega]
      rfl
    · by_cases g2 : x < 8
      · have := v2 (x - 4) (by omega)
        rw [show cap + 4 + (x - 4) = cap + x by omega] at this
        rw [u5 _ (by omega), u4 _ (by omega), u3 _ (by omega), this, show x / 4 = 1 by omega, show x % 4 = x - 4 by omega]
        rfl
      · by_cases g3 : x < 12
        · have := v3 (x - 8) (by omega)
          rw [show cap + 4 + 4 + (x - 8) = cap + x by omega] at this
          rw [u5 _ (by omega), u4 _ (by omega), this, show x / 4 = 2 by omega, show x % 4 = x - 8 by omega]
          rfl
        · by_cases g4 : x < 16
          · have := v4 (x - 12) (by omega)
            rw [show cap + 4 + 4 + 4 + (x - 12) = cap + x by omega] at this
            rw [u5 _ (by omega), this, show x / 4 = 3 by omega, show x % 4 = x - 12 by omega]
            rfl
          · have := v5 (x - 16) (by omega)
            rw [show cap + 4 + 4 + 4 + 4 + (x - 16) = cap + x by omega] at this
            rw [this, show x / 4 = 4 by omega, show x % 4 = x - 16 by omega]
            rfl
theorem M_feedL {v : T_M} {cap : Nat} (h : M_taped (M_tp v) = NN cap) (hc : cap ≤ 680) (a1 a2 a3 a4 a5 : Int32) (k : (Nat → Int32) → Option (Int32 × T_M)) :
    ∃ tp, f_M_feed_L20 v a1 a2 a3 a4 a5 k LF (NN 0) (M_tape (M_tp v)) = k tp ∧ (∀ j, j < cap → tp j = M_tape (M_tp v) j) ∧ ∀ x, x < 20 → tp (cap + x) = bto a1 a2 a3 a4 a5 x := by
  have sh : ∀ x, x < 20 → ((24 : Int32) - ((8 : Int32) * (NN x - NN x / (4 : Int32) * (4 : Int32)))) &&& 31 = NN (24 - 8 * (x % 4)) := by decide
  obtain ⟨s', e, h1, h2⟩ := loop_from (f_M_feed_L20 v a1 a2 a3 a4 a5 k) k (fun x s => (∀ j, j < cap → s j = M_tape (M_tp v) j) ∧ ∀ i, i < x → s (cap + i) = bto a1 a2 a3 a4 a5 i) 0 20 (n := LF) (s := M_tape (M_tp v))
    (by
      intro n x s _ hx hI
      refine ⟨upd s (cap + x) (bto a1 a2 a3 a4 a5 x), ?_, fun j hj => (upd_ne (by omega)).trans (hI.1 j hj), fun i hi => ?_⟩
      · rw [f_M_feed_L20, sh x hx, h]
        by_cases g1 : 4 ≤ x
        · by_cases g2 : 8 ≤ x
          · by_cases g3 : 12 ≤ x
            · by_cases g4 : 16 ≤ x
              · have eb : bto a1 a2 a3 a4 a5 x = (a5 >>> NN (24 - 8 * (x % 4))) &&& NN 255 := by unfold bto; rw [show x / 4 = 4 by omega]; rfl
                rw [eb]
                repeat first | (with_reducible refine s_nmj1 ?_) | (with_reducible refine s_nmj2 ?_) | ((with_reducible refine s_nm ?_); intro y_ hy_; (try simp (disch := omega) only [n_lit, n_add, n_mul, n_sub, n_tn, n_ltT, n_ltF, n_leT, n_leF, n_eqT, n_eqF, n_div, n_ixT, n_ixF, n_not, n_md, n_dec, n_and1, n_and3, n_and7, n_and15, n_and31, n_and63, Nat.mod_eq_of_lt, Nat.zero_add, Nat.add_zero, Nat.zero_mul, Nat.sub_zero, not_false_eq_true, not_true_eq_false, upd_at, upd_ne] at hy_); subst hy_) | ((with_reducible refine s_pos ?_ ?_); · simp (disch := omega) only [n_lit, n_add, n_mul, n_sub, n_tn, n_ltT, n_ltF, n_leT, n_leF, n_eqT, n_eqF, n_div, n_ixT, n_ixF, n_not, n_md, n_dec, n_and1, n_and3, n_and7, n_and15, n_and31, n_and63, Nat.mod_eq_of_lt, Nat.zero_add, Nat.add_zero, Nat.zero_mul, Nat.sub_zero, not_false_eq_true, not_true_eq_false, upd_at, upd_ne]) | ((with_reducible refine s_neg ?_ ?_); · simp (disch := omega) only [n_lit, n_add, n_mul, n_sub, n_tn, n_ltT, n_ltF, n_leT, n_leF, n_eqT, n_eqF, n_div, n_ixT, n_ixF, n_not, n_md, n_dec, n_and1, n_and3, n_and7, n_and15, n_and31, n_and63, Nat.mod_eq_of_lt, Nat.zero_add, Nat.add_zero, Nat.zero_mul, Nat.sub_zero, not_false_eq_true, not_true_eq_false, upd_at, upd_ne]) 
                rfl
              · have eb : bto a1 a2 a3 a4 a5 x = (a4 >>> NN (24 - 8 * (x % 4))) &&& NN 255 := by unfold bto; rw [show x / 4 = 3 by omega]; rfl
                rw [eb]
                repeat first | (with_reducible refine s_nmj1 ?_) | (with_reducible refine s_nmj2 ?_) | ((with_reducible refine s_nm ?_); intro y_ hy_; (try simp (disch := omega) only [n_lit, n_add, n_mul, n_sub, n_tn, n_ltT, n_ltF, n_leT, n_leF, n_eqT, n_eqF, n_div, n_ixT, n_ixF, n_not, n_md, n_dec, n_and1, n_and3, n_and7, n_and15, n_and31, n_and63, Nat.mod_eq_of_lt, Nat.zero_add, Nat.add_zero, Nat.zero_mul, Nat.sub_zero, not_false_eq_true, not_true_eq_false, upd_at, upd_ne] at hy_); subst hy_) | ((with_reducible refine s_pos ?_ ?_); · simp (disch := omega) only [n_lit, n_add, n_mul, n_sub, n_tn, n_ltT, n_ltF, n_leT, n_leF, n_eqT, n_eqF, n_div, n_ixT, n_ixF, n_not, n_md, n_dec, n_and1, n_and3, n_and7, n_and15, n_and31, n_and63, Nat.mod_eq_of_lt, Nat.zero_add, Nat.add_zero, Nat.zero_mul, Nat.sub_zero, not_false_eq_true, not_true_eq_false, upd_at, upd_ne]) | ((with_reducible refine s_neg ?_ ?_); · simp (disch := omega) only [n_lit, n_add, n_mul, n_sub, n_tn, n_ltT, n_ltF, n_leT, n_leF, n_eqT, n_eqF, n_div, n_ixT, n_ixF, n_not, n_md, n_dec, n_and1, n_and3, n_and7, n_and15, n_and31, n_and63, Nat.mod_eq_of_lt, Nat.zero_add, Nat.add_zero, Nat.zero_mul, Nat.sub_zero, not_false_eq_true, not_true_eq_false, upd_at, upd_ne]) 
                rfl
            · have eb : bto a1 a2 a3 a4 a5 x = (a3 >>> NN (24 - 8 * (x % 4))) &&& NN 255 := by unfold bto; rw [show x / 4 = 2 by omega]; rfl
              rw [eb]
              repeat first | (with_reducible refine s_nmj1 ?_) | (with_reducible refine s_nmj2 ?_) | ((with_reducible refine s_nm ?_); intro y_ hy_; (try simp (disch := omega) only [n_lit, n_add, n_mul, n_sub, n_tn, n_ltT, n_ltF, n_leT, n_leF, n_eqT, n_eqF, n_div, n_ixT, n_ixF, n_not, n_md, n_dec, n_and1, n_and3, n_and7, n_and15, n_and31, n_and63, Nat.mod_eq_of_lt, Nat.zero_add, Nat.add_zero, Nat.zero_mul, Nat.sub_zero, not_false_eq_true, not_true_eq_false, upd_at, upd_ne] at hy_); subst hy_) | ((with_reducible refine s_pos ?_ ?_); · simp (disch := omega) only [n_lit, n_add, n_mul, n_sub, n_tn, n_ltT, n_ltF, n_leT, n_leF, n_eqT, n_eqF, n_div, n_ixT, n_ixF, n_not, n_md, n_dec, n_and1, n_and3, n_and7, n_and15, n_and31, n_and63, Nat.mod_eq_of_lt, Nat.zero_add, Nat.add_zero, Nat.zero_mul, Nat.sub_zero, not_false_eq_true, not_true_eq_false, upd_at, upd_ne]) | ((with_reducible refine s_neg ?_ ?_); · simp (disch := omega) only [n_lit, n_add, n_mul, n_sub, n_tn, n_ltT, n_ltF, n_leT, n_leF, n_eqT, n_eqF, n_div, n_ixT, n_ixF, n_not, n_md, n_dec, n_and1, n_and3, n_and7, n_and15, n_and31, n_and63, Nat.mod_eq_of_lt, Nat.zero_add, Nat.add_zero, Nat.zero_mul, Nat.sub_zero, not_false_eq_true, not_true_eq_false, upd_at, upd_ne]) 
              rfl
          · have eb : bto a1 a2 a3 a4 a5 x = (a2 >>> NN (24 - 8 * (x % 4))) &&& NN 255 := by unfold bto; rw [show x / 4 = 1 by omega]; rfl
            rw [eb]
            repeat first | (with_reducible refine s_nmj1 ?_) | (with_reducible refine s_nmj2 ?_) | ((with_reducible refine s_nm ?_); intro y_ hy_; (try simp (disch := omega) only [n_lit, n_add, n_mul, n_sub, n_tn, n_ltT, n_ltF, n_leT, n_leF, n_eqT, n_eqF, n_div, n_ixT, n_ixF, n_not, n_md, n_dec, n_and1, n_and3, n_and7, n_and15, n_and31, n_and63, Nat.mod_eq_of_lt, Nat.zero_add, Nat.add_zero, Nat.zero_mul, Nat.sub_zero, not_false_eq_true, not_true_eq_false, upd_at, upd_ne] at hy_); subst hy_) | ((with_reducible refine s_pos ?_ ?_); · simp (disch := omega) only [n_lit, n_add, n_mul, n_sub, n_tn, n_ltT, n_ltF, n_leT, n_leF, n_eqT, n_eqF, n_div, n_ixT, n_ixF, n_not, n_md, n_dec, n_and1, n_and3, n_and7, n_and15, n_and31, n_and63, Nat.mod_eq_of_lt, Nat.zero_add, Nat.add_zero, Nat.zero_mul, Nat.sub_zero, not_false_eq_true, not_true_eq_false, upd_at, upd_ne]) | ((with_reducible refine s_neg ?_ ?_); · simp (disch := omega) only [n_lit, n_add, n_mul, n_sub, n_tn, n_ltT, n_ltF, n_leT, n_leF, n_eqT, n_eqF, n_div, n_ixT, n_ixF, n_not, n_md, n_dec, n_and1, n_and3, n_and7, n_and15, n_and31, n_and63, Nat.mod_eq_of_lt, Nat.zero_add, Nat.add_zero, Nat.zero_mul, Nat.sub_zero, not_false_eq_true, not_true_eq_false, upd_at, upd_ne]) 
            rfl
        · have eb : bto a1 a2 a3 a4 a5 x = (a1 >>> NN (24 - 8 * (x % 4))) &&& NN 255 := by unfold bto; rw [show x / 4 = 0 by omega]; rfl
          rw [eb, Nat.mod_eq_of_lt (show x < 4 by omega)]
          repeat first | (with_reducible refine s_nmj1 ?_) | (with_reducible refine s_nmj2 ?_) | ((with_reducible refine s_nm ?_); intro y_ hy_; (try simp (disch := omega) only [n_lit, n_add, n_mul, n_sub, n_tn, n_ltT, n_ltF, n_leT, n_leF, n_eqT, n_eqF, n_div, n_ixT, n_ixF, n_not, n_md, n_dec, n_and1, n_and3, n_and7, n_and15, n_and31, n_and63, Nat.mod_eq_of_lt, Nat.zero_add, Nat.add_zero, Nat.zero_mul, Nat.sub_zero, not_false_eq_true, not_true_eq_false, upd_at, upd_ne] at hy_); subst hy_) | ((with_reducible refine s_pos ?_ ?_); · simp (disch := omega) only [n_lit, n_add, n_mul, n_sub, n_tn, n_ltT, n_ltF, n_leT, n_leF, n_eqT, n_eqF, n_div, n_ixT, n_ixF, n_not, n_md, n_dec, n_and1, n_and3, n_and7, n_and15, n_and31, n_and63, Nat.mod_eq_of_lt, Nat.zero_add, Nat.add_zero, Nat.zero_mul, Nat.sub_zero, not_false_eq_true, not_true_eq_false, upd_at, upd_ne]) | ((with_reducible refine s_neg ?_ ?_); · simp (disch := omega) only [n_lit, n_add, n_mul, n_sub, n_tn, n_ltT, n_ltF, n_leT, n_leF, n_eqT, n_eqF, n_div, n_ixT, n_ixF, n_not, n_md, n_dec, n_and1, n_and3, n_and7, n_and15, n_and31, n_and63, Nat.mod_eq_of_lt, Nat.zero_add, Nat.add_zero, Nat.zero_mul, Nat.sub_zero, not_false_eq_true, not_true_eq_false, upd_at, upd_ne]) 
          rfl
      · by_cases q : i = x
        · subst q; exact upd_at rfl
        · exact (upd_ne (by omega)).trans (hI.2 i (by omega)))
    (fun n s _ => by
      rw [f_M_feed_L20]
      repeat first | (with_reducible refine s_nmj1 ?_) | (with_reducible refine s_nmj2 ?_) | ((with_reducible refine s_nm ?_); intro y_ hy_; (try simp (disch := omega) only [n_lit, n_add, n_mul, n_sub, n_tn, n_ltT, n_ltF, n_leT, n_leF, n_eqT, n_eqF, n_div, n_ixT, n_ixF, n_not, n_md, n_dec, n_and1, n_and3, n_and7, n_and15, n_and31, n_and63, Nat.mod_eq_of_lt, Nat.zero_add, Nat.add_zero, Nat.zero_mul, Nat.sub_zero, not_false_eq_true, not_true_eq_false, upd_at, upd_ne] at hy_); subst hy_) | ((with_reducible refine s_pos ?_ ?_); · simp (disch := omega) only [n_lit, n_add, n_mul, n_sub, n_tn, n_ltT, n_ltF, n_leT, n_leF, n_eqT, n_eqF, n_div, n_ixT, n_ixF, n_not, n_md, n_dec, n_and1, n_and3, n_and7, n_and15, n_and31, n_and63, Nat.mod_eq_of_lt, Nat.zero_add, Nat.add_zero, Nat.zero_mul, Nat.sub_zero, not_false_eq_true, not_true_eq_false, upd_at, upd_ne]) | ((with_reducible refine s_neg ?_ ?_); · simp (disch := omega) only [n_lit, n_add, n_mul, n_sub, n_tn, n_ltT, n_ltF, n_leT, n_leF, n_eqT, n_eqF, n_div, n_ixT, n_ixF, n_not, n_md, n_dec, n_and1, n_and3, n_and7, n_and15, n_and31, n_and63, Nat.mod_eq_of_lt, Nat.zero_add, Nat.add_zero, Nat.zero_mul, Nat.sub_zero, not_false_eq_true, not_true_eq_false, upd_at, upd_ne]) 
      rfl) (by omega) (lf_big (by omega)) ⟨fun _ _ => rfl, fun i hi => by omega⟩
  exact ⟨s', e, h1, h2⟩
theorem sim_feed {rd : T_Rd} {m : T_M} (hR : RDR rd m) (tt : T_TT) (a1 a2 a3 a4 a5 : Int32) :
    ∃ r rd' m', f_TT_feed tt rd a1 a2 a3 a4 a5 = some (r, rd') ∧ f_M_feed m a1 a2 a3 a4 a5 = some (r, m') ∧ RDR rd' m' ∧ M_cd m' = M_cd m ∧ M_rn m' = M_rn m ∧ M_ex m' = M_ex m ∧ M_im m' = M_im m ∧ M_al m' = M_al m ∧ M_thrown m' = 0 := by
  obtain ⟨hwd, hsd, ⟨cap, T, t1, t2, t3, t4⟩, f1, f2⟩ := id hR
  by_cases g : cap ≤ 680
  · obtain ⟨rd', e1, e2, e3, e4, e5, e6, e7, e8⟩ := C_feed t1 g tt a1 a2 a3 a4 a5
    obtain ⟨tp, u1, u2, u3⟩ := M_feedL t2 g a1 a2 a3 a4 a5 (fun (f4 : (Nat → Int32)) => (nm ((M_taped (M_tp m)) + (20 : Int32)) fun (x16 : Int32) => (some (x16, ((f4, x16), (M_rd m), (M_lf m), (M_cd m), (M_rn m), (M_ex m), (M_im m), (M_al m), (0 : Int32))))))
    refine ⟨NN (cap + 20), rd', ((tp, NN (cap + 20)), (M_rd m), (M_lf m), (M_cd m), (M_rn m), (M_ex m), (M_im m), (M_al m), (0 : Int32)), e1, ?_, ?_, rfl, rfl, rfl, rfl, rfl, rfl⟩
    · unfold f_M_feed
      refine (if_pos ?_).trans ?_
      · rw [t2]; simp (disch := omega) only [n_lit, n_add, n_mul, n_sub, n_tn, n_ltT, n_ltF, n_leT, n_leF, n_eqT, n_eqF, n_div, n_ixT, n_ixF, n_not, n_md, n_dec, n_and1, n_and3, n_and7, n_and15, n_and31, n_and63, Nat.mod_eq_of_lt, Nat.zero_add, Nat.add_zero, Nat.zero_mul, Nat.sub_zero, not_false_eq_true, not_true_eq_false, upd_at, upd_ne]
      · refine u1.trans ?_
        rw [t2]
        repeat first | (with_reducible refine s_nmj1 ?_) | (with_reducible refine s_nmj2 ?_) | ((with_reducible refine s_nm ?_); intro y_ hy_; (try simp (disch := omega) only [n_lit, n_add, n_mul, n_sub, n_tn, n_ltT, n_ltF, n_leT, n_leF, n_eqT, n_eqF, n_div, n_ixT, n_ixF, n_not, n_md, n_dec, n_and1, n_and3, n_and7, n_and15, n_and31, n_and63, Nat.mod_eq_of_lt, Nat.zero_add, Nat.add_zero, Nat.zero_mul, Nat.sub_zero, not_false_eq_true, not_true_eq_false, upd_at, upd_ne] at hy_); subst hy_) | ((with_reducible refine s_pos ?_ ?_); · simp (disch := omega) only [n_lit, n_add, n_mul, n_sub, n_tn, n_ltT, n_ltF, n_leT, n_leF, n_eqT, n_eqF, n_div, n_ixT, n_ixF, n_not, n_md, n_dec, n_and1, n_and3, n_and7, n_and15, n_and31, n_and63, Nat.mod_eq_of_lt, Nat.zero_add, Nat.add_zero, Nat.zero_mul, Nat.sub_zero, not_false_eq_true, not_true_eq_false, upd_at, upd_ne]) | ((with_reducible refine s_neg ?_ ?_); · simp (disch := omega) only [n_lit, n_add, n_mul, n_sub, n_tn, n_ltT, n_ltF, n_leT, n_leF, n_eqT, n_eqF, n_div, n_ixT, n_ixF, n_not, n_md, n_dec, n_and1, n_and3, n_and7, n_and15, n_and31, n_and63, Nat.mod_eq_of_lt, Nat.zero_add, Nat.add_zero, Nat.zero_mul, Nat.sub_zero, not_false_eq_true, not_true_eq_false, upd_at, upd_ne]) 
        rfl
    · refine ⟨fun k hk => (congrFun e5 k).trans (hwd k hk), fun k hk => (congrFun e6 k).trans (hsd k hk), ⟨cap + 20, fun j => if j < cap then T j else (bto a1 a2 a3 a4 a5 (j - cap)).toNatClampNeg, e2, rfl, by omega, fun j hj => ?_⟩, e3.trans f1, e4.trans f2⟩
      by_cases q : j < cap
      · obtain ⟨w1, w2, w3⟩ := t4 j q
        simp only [if_pos q]
        exact ⟨w1, by rw [e7 j q]; exact w2, (u2 j q).trans w3⟩
      · simp only [if_neg q]
        have hx : bto a1 a2 a3 a4 a5 (j - cap) = NN (bto a1 a2 a3 a4 a5 (j - cap)).toNatClampNeg ∧ (bto a1 a2 a3 a4 a5 (j - cap)).toNatClampNeg < 256 := by
          obtain ⟨b, b1, b2⟩ := and255 (ag a1 a2 a3 a4 a5 ((j - cap) / 4) >>> NN (24 - 8 * ((j - cap) % 4)))
          have b3 : bto a1 a2 a3 a4 a5 (j - cap) = NN b := b2
          rw [b3, n_tn (by omega)]
          exact ⟨rfl, b1⟩
        have w1 := e8 (j - cap) (by omega)
        have w2 := u3 (j - cap) (by omega)
        rw [show cap + (j - cap) = j by omega] at w1 w2
        exact ⟨hx.2, w1.trans hx.1, w2.trans hx.1⟩
  · refine ⟨-1, rd, mT m, ?_, ?_, hR, rfl, rfl, rfl, rfl, rfl, rfl⟩
    · have hr : f_Rd_hasRoom rd = some (NN 0) := by
        unfold f_Rd_hasRoom
        rw [t1]
        repeat first | (with_reducible refine s_nmj1 ?_) | (with_reducible refine s_nmj2 ?_) | ((with_reducible refine s_nm ?_); intro y_ hy_; (try simp (disch := omega) only [n_lit, n_add, n_mul, n_sub, n_tn, n_ltT, n_ltF, n_leT, n_leF, n_eqT, n_eqF, n_div, n_ixT, n_ixF, n_not, n_md, n_dec, n_and1, n_and3, n_and7, n_and15, n_and31, n_and63, Nat.mod_eq_of_lt, Nat.zero_add, Nat.add_zero, Nat.zero_mul, Nat.sub_zero, not_false_eq_true, not_true_eq_false, upd_at, upd_ne] at hy_); subst hy_) | ((with_reducible refine s_pos ?_ ?_); · simp (disch := omega) only [n_lit, n_add, n_mul, n_sub, n_tn, n_ltT, n_ltF, n_leT, n_leF, n_eqT, n_eqF, n_div, n_ixT, n_ixF, n_not, n_md, n_dec, n_and1, n_and3, n_and7, n_and15, n_and31, n_and63, Nat.mod_eq_of_lt, Nat.zero_add, Nat.add_zero, Nat.zero_mul, Nat.sub_zero, not_false_eq_true, not_true_eq_false, upd_at, upd_ne]) | ((with_reducible refine s_neg ?_ ?_); · simp (disch := omega) only [n_lit, n_add, n_mul, n_sub, n_tn, n_ltT, n_ltF, n_leT, n_leF, n_eqT, n_eqF, n_div, n_ixT, n_ixF, n_not, n_md, n_dec, n_and1, n_and3, n_and7, n_and15, n_and31, n_and63, Nat.mod_eq_of_lt, Nat.zero_add, Nat.add_zero, Nat.zero_mul, Nat.sub_zero, not_false_eq_true, not_true_eq_false, upd_at, upd_ne]) 
        rfl
      unfold f_TT_feed
      refine s_bd hr ?_
      exact if_pos rfl
    · unfold f_M_feed
      refine (if_neg ?_).trans rfl
      rw [t2]; simp (disch := omega) only [n_lit, n_add, n_mul, n_sub, n_tn, n_ltT, n_ltF, n_leT, n_leF, n_eqT, n_eqF, n_div, n_ixT, n_ixF, n_not, n_md, n_dec, n_and1, n_and3, n_and7, n_and15, n_and31, n_and63, Nat.mod_eq_of_lt, Nat.zero_add, Nat.add_zero, Nat.zero_mul, Nat.sub_zero, not_false_eq_true, not_true_eq_false, upd_at, upd_ne]
