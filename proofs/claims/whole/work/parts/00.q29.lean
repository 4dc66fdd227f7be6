/-! what leaves -/
theorem fm40 {n : Nat} (h : n < 1000000000) : fm_v (NN n) (40 : Int32) = NN (n % 40) := by
  have hx : ¬ ((NN n ^^^ (40 : Int32)) < 0) := by
    rw [Int32.not_lt]
    have e : NN n ^^^ (40 : Int32) = NN (n ^^^ 40) := by
      apply Int32.toBitVec_inj.mp
      rw [Int32.toBitVec_xor]
      show BitVec.ofNat 32 n ^^^ BitVec.ofNat 32 40 = BitVec.ofNat 32 (n ^^^ 40)
      apply BitVec.eq_of_toNat_eq
      rw [BitVec.toNat_xor, BitVec.toNat_ofNat, BitVec.toNat_ofNat, BitVec.toNat_ofNat, Nat.xor_mod_two_pow]
    have hb : n ^^^ 40 < 2 ^ 30 := Nat.xor_lt_two_pow (by omega) (by decide)
    rw [e, show (0 : Int32) = NN 0 from rfl, n_le (by omega) (by omega)]
    omega
  unfold fm_v
  rw [if_neg hx]
  simp (disch := omega) only [nm, bd_some, bd2_some, bd3_some, n_lit, n_add, n_mul, n_sub, n_tn, n_ltT, n_ltF, n_leT, n_leF, n_eqT, n_eqF, n_div, n_ixT, n_ixF, n_not, n_md, n_dec, n_and1, n_and3, n_and7, n_and15, n_and31, n_and63, Nat.mod_eq_of_lt, Nat.zero_add, Nat.add_zero, Nat.zero_mul, Nat.sub_zero, not_false_eq_true, not_true_eq_false, if_pos, if_neg, false_or, or_false, not_false_eq_true, Nat.not_le, Nat.not_lt, if_true, if_false, Nat.zero_add, Nat.add_zero, Nat.zero_mul, Nat.sub_zero, upd_at, upd_ne]
set_option maxHeartbeats 2000000 in
theorem C_receive {o : T_Ou} {ns no a : Nat} {w pt : Int32} (ha : a < 64) (h1 : Ou_stores o = NN ns) (h2 : Ou_outputs o = NN no) (b1 : ns < 1000000000) (b2 : no < 1000000000) :
    f_Ou_receive o (NN a) w pt = some (if a < 32 then upd (Ou_memory o) a w else Ou_memory o, if a < 32 then Ou_output o else upd (Ou_output o) (no % 40) w,
      upd (Ou_leftAddress o) ((ns + no) % 16) (NN (if a < 32 then a else 32)), upd (Ou_leftWord o) ((ns + no) % 16) w, upd (Ou_leftPoint o) ((ns + no) % 16) pt, NN (if a < 32 then ns + 1 else ns), NN (if a < 32 then no else no + 1)) := by
  have hf : fm_v (NN no) (NN 40) = NN (no % 40) := fm40 b2
  unfold f_Ou_receive
  by_cases q : a < 32
  · have hmin : (if (32 : Int32) < NN a then (32 : Int32) else NN a) = NN a := if_neg (by simp (disch := omega) only [n_lit, n_ltF, not_false_eq_true])
    rw [hmin]
    repeat first | (with_reducible refine s_nmj1 ?_) | (with_reducible refine s_nmj2 ?_) | ((with_reducible refine s_nm ?_); intro y_ hy_; (try simp (disch := omega) only [n_lit, n_add, n_mul, n_sub, n_tn, n_ltT, n_ltF, n_leT, n_leF, n_eqT, n_eqF, n_div, n_ixT, n_ixF, n_not, n_md, n_dec, n_and1, n_and3, n_and7, n_and15, n_and31, n_and63, Nat.mod_eq_of_lt, Nat.zero_add, Nat.add_zero, Nat.zero_mul, Nat.sub_zero, not_false_eq_true, not_true_eq_false, upd_at, upd_ne, h1, h2] at hy_); subst hy_) | ((with_reducible refine s_pos ?_ ?_); · simp (disch := omega) only [n_lit, n_add, n_mul, n_sub, n_tn, n_ltT, n_ltF, n_leT, n_leF, n_eqT, n_eqF, n_div, n_ixT, n_ixF, n_not, n_md, n_dec, n_and1, n_and3, n_and7, n_and15, n_and31, n_and63, Nat.mod_eq_of_lt, Nat.zero_add, Nat.add_zero, Nat.zero_mul, Nat.sub_zero, not_false_eq_true, not_true_eq_false, upd_at, upd_ne, h1, h2]) | ((with_reducible refine s_neg ?_ ?_); · simp (disch := omega) only [n_lit, n_add, n_mul, n_sub, n_tn, n_ltT, n_ltF, n_leT, n_leF, n_eqT, n_eqF, n_div, n_ixT, n_ixF, n_not, n_md, n_dec, n_and1, n_and3, n_and7, n_and15, n_and31, n_and63, Nat.mod_eq_of_lt, Nat.zero_add, Nat.add_zero, Nat.zero_mul, Nat.sub_zero, not_false_eq_true, not_true_eq_false, upd_at, upd_ne, h1, h2]) 
    rw [if_pos q, if_pos q, if_pos q, if_pos q, if_pos q, h2]
  · have hmin : (if (32 : Int32) < NN a then (32 : Int32) else NN a) = NN 32 := by
      by_cases q2 : a = 32
      · subst q2; rfl
      · exact if_pos (by simp (disch := omega) only [n_lit, n_ltT])
    rw [hmin]
    repeat first | (with_reducible refine s_nmj1 ?_) | (with_reducible refine s_nmj2 ?_) | ((with_reducible refine s_nm ?_); intro y_ hy_; (try simp (disch := omega) only [n_lit, n_add, n_mul, n_sub, n_tn, n_ltT, n_ltF, n_leT, n_leF, n_eqT, n_eqF, n_div, n_ixT, n_ixF, n_not, n_md, n_dec, n_and1, n_and3, n_and7, n_and15, n_and31, n_and63, Nat.mod_eq_of_lt, Nat.zero_add, Nat.add_zero, Nat.zero_mul, Nat.sub_zero, not_false_eq_true, not_true_eq_false, upd_at, upd_ne, h1, h2, hf] at hy_); subst hy_) | ((with_reducible refine s_pos ?_ ?_); · simp (disch := omega) only [n_lit, n_add, n_mul, n_sub, n_tn, n_ltT, n_ltF, n_leT, n_leF, n_eqT, n_eqF, n_div, n_ixT, n_ixF, n_not, n_md, n_dec, n_and1, n_and3, n_and7, n_and15, n_and31, n_and63, Nat.mod_eq_of_lt, Nat.zero_add, Nat.add_zero, Nat.zero_mul, Nat.sub_zero, not_false_eq_true, not_true_eq_false, upd_at, upd_ne, h1, h2, hf]) | ((with_reducible refine s_neg ?_ ?_); · simp (disch := omega) only [n_lit, n_add, n_mul, n_sub, n_tn, n_ltT, n_ltF, n_leT, n_leF, n_eqT, n_eqF, n_div, n_ixT, n_ixF, n_not, n_md, n_dec, n_and1, n_and3, n_and7, n_and15, n_and31, n_and63, Nat.mod_eq_of_lt, Nat.zero_add, Nat.add_zero, Nat.zero_mul, Nat.sub_zero, not_false_eq_true, not_true_eq_false, upd_at, upd_ne, h1, h2, hf]) 
    rw [if_neg q, if_neg q, if_neg q, if_neg q, if_neg q, h1]
theorem jRow_val (s : Nat → Int32) (m a : Nat) (w : Int32) : jRow s m a w (266 + 3 * m) = NN (if a < 32 then a else 32) ∧ jRow s m a w (266 + 3 * m + 1) = w ∧ jRow s m a w (266 + 3 * m + 2) = s 220 ∧ jRow s m a w 232 = (if a < 32 then s 232 else NN 1) := by
  simp only [jRow]
  split
  · refine ⟨?_, ?_, ?_, ?_⟩ <;> simp (disch := omega) only [upd_at, upd_ne, if_pos, if_neg]
  · refine ⟨?_, ?_, ?_, ?_⟩ <;> simp (disch := omega) only [upd_at, upd_ne, if_pos, if_neg]
theorem jRow_old (s : Nat → Int32) (m a : Nat) (w : Int32) {j : Nat} (h : 266 ≤ j) (h2 : j < 266 + 3 * m) : jRow s m a w j = s j := by
  simp only [jRow]
  split <;> simp (disch := omega) only [upd_at, upd_ne, if_pos, if_neg]
theorem jAll_old (s : Nat → Int32) (m a : Nat) (w : Int32) {k : Nat} (hm : m ≤ 16) (hk : k < min m 15) (i : Nat) (hi : i < 3) : jAll s m a w (266 + 3 * k + i) = s (266 + 3 * (if m = 16 then k + 1 else k) + i) := by
  simp only [jAll]
  by_cases q : m = 16
  · rw [if_pos q, if_pos q, jRow_old _ _ _ _ (by omega) (by omega), upd_ne (by omega)]
    simp only [jsh]; rw [if_pos (by omega)]; congr 1; omega
  · rw [if_neg q, if_neg q, jRow_old _ _ _ _ (by omega) (by omega)]
theorem jAll_new (s : Nat → Int32) (m a : Nat) (w : Int32) (hm : m ≤ 16) : jAll s m a w (266 + 3 * (min m 15)) = NN (if a < 32 then a else 32) ∧ jAll s m a w (266 + 3 * (min m 15) + 1) = w ∧ jAll s m a w (266 + 3 * (min m 15) + 2) = s 220 ∧
    jAll s m a w 232 = (if a < 32 then s 232 else NN 1) ∧ jAll s m a w 265 = NN (min m 15 + 1) := by
  simp only [jAll]
  by_cases q : m = 16
  · obtain ⟨j1, j2, j3, j4⟩ := jRow_val (upd (jsh s) 265 (NN 15)) 15 a w
    rw [show min m 15 = 15 by omega, if_pos q]
    refine ⟨j1, j2, j3.trans ?_, j4.trans ?_, jRow_265 _ _ _ _⟩
    · rw [upd_ne (by omega), show jsh s 220 = s 220 from if_neg (by omega)]
    · rw [upd_ne (by omega), show jsh s 232 = s 232 from if_neg (by omega)]
  · obtain ⟨j1, j2, j3, j4⟩ := jRow_val s m a w
    rw [show min m 15 = m by omega, if_neg q]
    exact ⟨j1, j2, j3, j4, jRow_265 _ _ _ _⟩
set_option maxHeartbeats 2000000 in
theorem ROu_recv {o : T_Ou} {s : Nat → Int32} {ns no a : Nat} {w : Int32} (h : ROu o s ns no) (ha : a < 64) (hb : ns + no + 1 < 1000000000) :
    ROu (if a < 32 then upd (Ou_memory o) a w else Ou_memory o, if a < 32 then Ou_output o else upd (Ou_output o) (no % 40) w,
      upd (Ou_leftAddress o) ((ns + no) % 16) (NN (if a < 32 then a else 32)), upd (Ou_leftWord o) ((ns + no) % 16) w, upd (Ou_leftPoint o) ((ns + no) % 16) (s 220), NN (if a < 32 then ns + 1 else ns), NN (if a < 32 then no else no + 1))
      (lvRow s a w) (if a < 32 then ns + 1 else ns) (if a < 32 then no else no + 1) := by
  obtain ⟨h1, ⟨h2, h3, h4⟩, ⟨h5, h6, h7⟩, h8, h9, h10, h11, h12⟩ := h
  obtain ⟨m, hm⟩ : ∃ m, m = min (ns + no) 16 := ⟨_, rfl⟩
  rw [← hm] at h11 h12
  have hm16 : m ≤ 16 := by omega
  have e265 : (s 265).toNatClampNeg = m := by rw [h11, n_tn (by omega)]
  have e178 : (s 178).toNatClampNeg = min no 40 := by rw [h8, n_tn (by omega)]
  obtain ⟨j1, j2, j3, j4, j5⟩ := jAll_new s m a w hm16
  have jn : ∀ j, j ≠ 232 → j < 265 → jAll s m a w j = s j := fun j x1 x2 => jAll_ne x1 x2
  have hsum : (if a < 32 then ns + 1 else ns) + (if a < 32 then no else no + 1) = ns + no + 1 := by split <;> omega
  have jou : ∀ (r : Nat → Int32), (∀ j, 265 ≤ j → r j = jAll s m a w j) → r 265 = NN (min (ns + no + 1) 16) ∧
      (∀ k, k < min (ns + no + 1) 16 → r (266 + 3 * k) = upd (Ou_leftAddress o) ((ns + no) % 16) (NN (if a < 32 then a else 32)) ((ns + no + 1 - min (ns + no + 1) 16 + k) % 16) ∧ r (266 + 3 * k + 1) = upd (Ou_leftWord o) ((ns + no) % 16) w ((ns + no + 1 - min (ns + no + 1) 16 + k) % 16) ∧
        r (266 + 3 * k + 2) = upd (Ou_leftPoint o) ((ns + no) % 16) (s 220) ((ns + no + 1 - min (ns + no + 1) 16 + k) % 16)) := by
    intro r hr
    refine ⟨?_, ?_⟩
    · rw [hr _ (by omega), j5]; congr 1; omega
    · intro k hk
      rw [hr _ (by omega), hr _ (by omega), hr _ (by omega)]
      by_cases hkm : k = min m 15
      · subst hkm
        rw [j1, j2, j3, upd_at (by omega), upd_at (by omega), upd_at (by omega)]
        exact ⟨rfl, rfl, rfl⟩
      · have hk15 : k < min m 15 := by omega
        have o0 := jAll_old s m a w hm16 hk15 0 (by omega)
        have o1 := jAll_old s m a w hm16 hk15 1 (by omega)
        have o2 := jAll_old s m a w hm16 hk15 2 (by omega)
        rw [Nat.add_zero, Nat.add_zero] at o0
        rw [o0, o1, o2, upd_ne (by omega), upd_ne (by omega), upd_ne (by omega)]
        obtain ⟨p0, p1, p2⟩ := h12 (if m = 16 then k + 1 else k) (by split <;> omega)
        have hix : (ns + no - m + (if m = 16 then k + 1 else k)) % 16 = (ns + no + 1 - min (ns + no + 1) 16 + k) % 16 := by split <;> omega
        rw [hix] at p0 p1 p2
        exact ⟨p0, p1, p2⟩
  by_cases q : a < 32
  · rw [if_pos q] at hsum
    simp only [if_pos q] at jou ⊢
    have hlv : lvRow s a w = upd (upd (jAll s m a w) (146 + a) w) 224 (s 224 + NN 1) := by simp only [lvRow]; rw [if_pos q, e265]
    rw [hlv]
    obtain ⟨u1, u2⟩ := jou (upd (upd (jAll s m a w) (146 + a) w) 224 (s 224 + NN 1)) (fun j hj => by simp (disch := omega) only [upd_at, upd_ne, if_pos, if_neg])
    have hs2 : ns + 1 + no = ns + no + 1 := by omega
    refine ⟨?_, ⟨rfl, ?_, by omega⟩, ⟨rfl, ?_, h7⟩, ?_, ?_, ?_, ?_, ?_⟩
    · intro x hx
      simp only [Ou_memory_mk]
      by_cases hxa : x = a
      · subst hxa; simp (disch := omega) only [upd_at, upd_ne, if_pos, if_neg]
      · rw [upd_ne (by omega), upd_ne (by omega), upd_ne hxa, jn _ (by omega) (by omega)]; exact h1 x hx
    · simp (disch := omega) only [upd_at, upd_ne, if_pos, if_neg]; rw [h3, n_add]
    · simp (disch := omega) only [upd_at, upd_ne, if_pos, if_neg]; rw [jn _ (by omega) (by omega)]; exact h6
    · simp (disch := omega) only [upd_at, upd_ne, if_pos, if_neg]; rw [jn _ (by omega) (by omega)]; exact h8
    · intro k hk; simp only [Ou_output_mk]; simp (disch := omega) only [upd_at, upd_ne, if_pos, if_neg]; rw [jn _ (by omega) (by omega)]; exact h9 k hk
    · simp (disch := omega) only [upd_at, upd_ne, if_pos, if_neg]; rw [j4, if_pos q]; exact h10
    · rw [hs2]; exact u1
    · rw [hs2]; exact u2
  · rw [if_neg q] at hsum
    simp only [if_neg q] at jou ⊢
    have hs2 : ns + (no + 1) = ns + no + 1 := by omega
    by_cases q2 : 40 ≤ no
    · have e40 : s 178 = NN 40 := by rw [h8]; congr 1; omega
      have hlv : lvRow s a w = upd (upd (upd (upd (sh1 179 218 (jAll s m a w)) 178 (NN 39)) (179 + 39) w) 178 (NN 40)) 225 (s 225 + NN 1) := by simp only [lvRow]; rw [if_neg q, if_pos e40, e265]
      rw [hlv]
      have shn : ∀ j, ¬ (179 ≤ j ∧ j < 218) → sh1 179 218 (jAll s m a w) j = jAll s m a w j := fun j hj => by simp only [sh1]; rw [if_neg hj]
      obtain ⟨u1, u2⟩ := jou (upd (upd (upd (upd (sh1 179 218 (jAll s m a w)) 178 (NN 39)) (179 + 39) w) 178 (NN 40)) 225 (s 225 + NN 1)) (fun j hj => by simp (disch := omega) only [upd_at, upd_ne, if_pos, if_neg]; exact shn _ (by omega))
      refine ⟨?_, ⟨rfl, ?_, h4⟩, ⟨rfl, ?_, by omega⟩, ?_, ?_, ?_, ?_, ?_⟩
      · intro x hx
        simp only [Ou_memory_mk]; simp (disch := omega) only [upd_at, upd_ne, if_pos, if_neg]; rw [shn _ (by omega), jn _ (by omega) (by omega)]; exact h1 x hx
      · simp (disch := omega) only [upd_at, upd_ne, if_pos, if_neg]; rw [shn _ (by omega), jn _ (by omega) (by omega)]; exact h3
      · simp (disch := omega) only [upd_at, upd_ne, if_pos, if_neg]; rw [h6, n_add]
      · simp (disch := omega) only [upd_at, upd_ne, if_pos, if_neg]; congr 1; omega
      · intro k hk
        simp only [Ou_output_mk]
        by_cases hk39 : k = 39
        · subst hk39
          rw [upd_ne (by omega), upd_ne (by omega), upd_at (by omega), upd_at (by omega)]
        · rw [upd_ne (by omega), upd_ne (by omega), upd_ne (by omega), upd_ne (by omega), upd_ne (by omega)]
          simp only [sh1]; rw [if_pos (by omega), jn _ (by omega) (by omega)]
          have := h9 (k + 1) (by omega)
          rw [show 179 + k + 1 = 179 + (k + 1) by omega, this]; congr 1; omega
      · simp (disch := omega) only [upd_at, upd_ne, if_pos, if_neg]; rw [shn _ (by omega), j4, if_neg q]
      · rw [hs2]; exact u1
      · rw [hs2]; exact u2
    · have e40 : ¬ s 178 = NN 40 := by rw [h8]; simp (disch := omega) only [n_eqF, not_false_eq_true]
      have hlv : lvRow s a w = upd (upd (upd (jAll s m a w) (179 + no) w) 178 (s 178 + NN 1)) 225 (s 225 + NN 1) := by
        simp only [lvRow]; rw [if_neg q, if_neg e40, e265, e178, show min no 40 = no by omega]
      rw [hlv]
      obtain ⟨u1, u2⟩ := jou (upd (upd (upd (jAll s m a w) (179 + no) w) 178 (s 178 + NN 1)) 225 (s 225 + NN 1)) (fun j hj => by simp (disch := omega) only [upd_at, upd_ne, if_pos, if_neg])
      refine ⟨?_, ⟨rfl, ?_, h4⟩, ⟨rfl, ?_, by omega⟩, ?_, ?_, ?_, ?_, ?_⟩
      · intro x hx
        simp only [Ou_memory_mk]; simp (disch := omega) only [upd_at, upd_ne, if_pos, if_neg]; rw [jn _ (by omega) (by omega)]; exact h1 x hx
      · simp (disch := omega) only [upd_at, upd_ne, if_pos, if_neg]; rw [jn _ (by omega) (by omega)]; exact h3
      · simp (disch := omega) only [upd_at, upd_ne, if_pos, if_neg]; rw [h6, n_add]
      · simp (disch := omega) only [upd_at, upd_ne, if_pos, if_neg]; rw [h8, n_add]; congr 1; omega
      · intro k hk
        simp only [Ou_output_mk]
        by_cases hkn : k = no
        · subst hkn
          rw [upd_ne (by omega), upd_ne (by omega), upd_at rfl, upd_at (by omega)]
        · rw [upd_ne (by omega), upd_ne (by omega), upd_ne (by omega), upd_ne (by omega), jn _ (by omega) (by omega)]
          have := h9 k (by omega)
          rw [this]; congr 1; omega
      · simp (disch := omega) only [upd_at, upd_ne, if_pos, if_neg]; rw [j4, if_neg q]
      · rw [hs2]; exact u1
      · rw [hs2]; exact u2
