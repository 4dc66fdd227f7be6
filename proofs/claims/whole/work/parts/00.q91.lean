/-! a TEXT: the names of its jumps -/
abbrev toC (c : T_Mc) (F : Nat → Int32) : T_Mc := ((M_number c), (M_codeSort c), (M_codeA c), (M_codeB c), (M_codeC c), (M_codeName c), (M_codePlace c), F, (M_labelName c), (M_labelAt c), (M_data c))
abbrev t3P (pr : T_Pg) (f : Nat → Int32) : T_Pg := ((Pg_code pr), (Pg_first pr), (Pg_second pr), f, (Pg_rules pr), (Pg_data pr), (Pg_names pr), (Pg_namedPlaces pr), (Pg_nameCount pr), (Pg_size pr), (Pg_lines pr))
def NMI (pr : T_Pg) (m : T_M) (sz x : Nat) (f F : Nat → Int32) : Prop := (∀ k, k < 40 → F k = M_codeTo (M_cd m) k) ∧ ∀ p c, p < sz → c ≤ 17 → Pg_code pr p = NN c → (c < 14 → f p = Pg_third pr p) ∧ (14 ≤ c → x ≤ p → f p = Pg_third pr p) ∧ (14 ≤ c → p < x → ∃ a, a ≤ 40 ∧ f p = NN a ∧ F (40 + p) = NN a)
theorem isJump1 {c : Nat} (h : 14 ≤ c ∧ c ≤ 17) : f_M_isJump (NN (if c = 0 then 24 else c + 6)) = some (NN 1) := by
  have : ∀ c, c < 18 → 14 ≤ c → f_M_isJump (NN (if c = 0 then 24 else c + 6)) = some (NN 1) := by decide
  exact this c (by omega) h.1
theorem isJump0 {c : Nat} (h : c < 14) : f_M_isJump (NN (if c = 0 then 24 else c + 6)) = some (NN 0) := by
  have : ∀ c, c < 14 → f_M_isJump (NN (if c = 0 then 24 else c + 6)) = some (NN 0) := by decide
  exact this c h
theorem M_wrongAt0 {m : T_M} (h : M_fault (M_rd m) = NN 0) (a b : Int32) : f_M_wrongAt m a b = some (wM m a b) := by
  unfold f_M_wrongAt
  rw [show M_fault (M_rd m) = (0 : Int32) from h]
  rfl
theorem tn40 {x : Nat} (h : x < 100) : ((40 : Int32) + NN x).toNatClampNeg = 40 + x := by simp (disch := omega) only [n_lit, n_add, n_mul, n_sub, n_tn, n_ltT, n_ltF, n_leT, n_leF, n_eqT, n_eqF, n_div, n_ixT, n_ixF, n_not, n_md, n_dec, n_and1, n_and3, n_and7, n_and15, n_and31, n_and63, Nat.mod_eq_of_lt, Nat.zero_add, Nat.add_zero, Nat.zero_mul, Nat.sub_zero, not_false_eq_true, not_true_eq_false, upd_at, upd_ne]
theorem n_m1 {a : Nat} (h : a < 2147483648) : (NN a = (-1 : Int32)) = False := ng_eq2 (x := (-1 : Int32)) (by decide) h
theorem n_m1' {a : Nat} (h : a < 2147483648) : ¬ (NN a = (-1 : Int32)) := by rw [n_m1 h]; exact not_false
theorem tn0 {x : Nat} (h : x < 100) : (NN x).toNatClampNeg = x := by simp (disch := omega) only [n_lit, n_add, n_mul, n_sub, n_tn, n_ltT, n_ltF, n_leT, n_leF, n_eqT, n_eqF, n_div, n_ixT, n_ixF, n_not, n_md, n_dec, n_and1, n_and3, n_and7, n_and15, n_and31, n_and63, Nat.mod_eq_of_lt, Nat.zero_add, Nat.add_zero, Nat.zero_mul, Nat.sub_zero, not_false_eq_true, not_true_eq_false, upd_at, upd_ne]
theorem names_loop {rd : T_Rd} {pr : T_Pg} {m : T_M} {sz nc : Nat} (hD : DR rd pr m sz nc) (h0 : Rd_fault rd = NN 0) (h1 : M_fault (M_rd m) = NN 0) (k2 : (Nat → Int32) → T_Rd → Option (T_Rd × T_Pg)) (k52 : T_M → Option T_M) :
    ∀ d x n1 n2 f F, x + d = sz → d + 1 < n1 → d + 1 < n2 → NMI pr m sz x f F →
      (∃ f' F', f_Rd_findNames_L2 pr k2 n1 (NN x) f rd = k2 f' rd ∧ f_M_readText_L52 k52 n2 (NN x) (sC m (toC (M_cd m) F)) = k52 (sC m (toC (M_cd m) F')) ∧ NMI pr m sz sz f' F') ∨
      (∃ f' F' p, p ≤ 700 ∧ f_Rd_findNames_L2 pr k2 n1 (NN x) f rd = k2 f' (wR rd (NN 4) (NN p)) ∧ f_M_readText_L52 k52 n2 (NN x) (sC m (toC (M_cd m) F)) = k52 (wM (sC m (toC (M_cd m) F')) (NN 4) (NN p)) ∧ (∀ k, k < 40 → F' k = M_codeTo (M_cd m) k)) := by
  obtain ⟨⟨d1, d2, d3⟩, ⟨d4, d5, d6⟩, -, -, -, d7, -, d8, -⟩ := hD
  intro d
  induction d with
  | zero =>
    intro x n1 n2 f F hx g1 g2 hI
    obtain ⟨n1, rfl⟩ : ∃ q, n1 = q + 1 := ⟨n1 - 1, by omega⟩
    obtain ⟨n2, rfl⟩ : ∃ q, n2 = q + 1 := ⟨n2 - 1, by omega⟩
    obtain ⟨M, hM⟩ : ∃ M, M = sC m (toC (M_cd m) F) := ⟨_, rfl⟩
    have e8 : f_M_reading M (8 : Int32) = some (NN sz) := (M_reading1 (k := 8) (by decide)).trans (congrArg some (by rw [hM]; exact d2))
    refine Or.inl ⟨f, F, ?_, ?_, (by rw [show sz = x by omega] at hI ⊢; exact hI)⟩
    · rw [f_Rd_findNames_L2]
      repeat first | (with_reducible refine s_nmj1 ?_) | (with_reducible refine s_nmj2 ?_) | ((with_reducible refine s_nm ?_); intro y_ hy_; (try simp (disch := omega) only [n_lit, n_add, n_mul, n_sub, n_tn, n_ltT, n_ltF, n_leT, n_leF, n_eqT, n_eqF, n_div, n_ixT, n_ixF, n_not, n_md, n_dec, n_and1, n_and3, n_and7, n_and15, n_and31, n_and63, Nat.mod_eq_of_lt, Nat.zero_add, Nat.add_zero, Nat.zero_mul, Nat.sub_zero, not_false_eq_true, not_true_eq_false, upd_at, upd_ne, d1] at hy_); subst hy_) | ((with_reducible refine s_pos ?_ ?_); · simp (disch := omega) only [n_lit, n_add, n_mul, n_sub, n_tn, n_ltT, n_ltF, n_leT, n_leF, n_eqT, n_eqF, n_div, n_ixT, n_ixF, n_not, n_md, n_dec, n_and1, n_and3, n_and7, n_and15, n_and31, n_and63, Nat.mod_eq_of_lt, Nat.zero_add, Nat.add_zero, Nat.zero_mul, Nat.sub_zero, not_false_eq_true, not_true_eq_false, upd_at, upd_ne, d1]) | ((with_reducible refine s_neg ?_ ?_); · simp (disch := omega) only [n_lit, n_add, n_mul, n_sub, n_tn, n_ltT, n_ltF, n_leT, n_leF, n_eqT, n_eqF, n_div, n_ixT, n_ixF, n_not, n_md, n_dec, n_and1, n_and3, n_and7, n_and15, n_and31, n_and63, Nat.mod_eq_of_lt, Nat.zero_add, Nat.add_zero, Nat.zero_mul, Nat.sub_zero, not_false_eq_true, not_true_eq_false, upd_at, upd_ne, d1]) 
      rfl
    · rw [← hM, f_M_readText_L52]
      refine s_bd e8 ?_
      repeat first | (with_reducible refine s_nmj1 ?_) | (with_reducible refine s_nmj2 ?_) | ((with_reducible refine s_nm ?_); intro y_ hy_; (try simp (disch := omega) only [n_lit, n_add, n_mul, n_sub, n_tn, n_ltT, n_ltF, n_leT, n_leF, n_eqT, n_eqF, n_div, n_ixT, n_ixF, n_not, n_md, n_dec, n_and1, n_and3, n_and7, n_and15, n_and31, n_and63, Nat.mod_eq_of_lt, Nat.zero_add, Nat.add_zero, Nat.zero_mul, Nat.sub_zero, not_false_eq_true, not_true_eq_false, upd_at, upd_ne] at hy_); subst hy_) | ((with_reducible refine s_pos ?_ ?_); · simp (disch := omega) only [n_lit, n_add, n_mul, n_sub, n_tn, n_ltT, n_ltF, n_leT, n_leF, n_eqT, n_eqF, n_div, n_ixT, n_ixF, n_not, n_md, n_dec, n_and1, n_and3, n_and7, n_and15, n_and31, n_and63, Nat.mod_eq_of_lt, Nat.zero_add, Nat.add_zero, Nat.zero_mul, Nat.sub_zero, not_false_eq_true, not_true_eq_false, upd_at, upd_ne]) | ((with_reducible refine s_neg ?_ ?_); · simp (disch := omega) only [n_lit, n_add, n_mul, n_sub, n_tn, n_ltT, n_ltF, n_leT, n_leF, n_eqT, n_eqF, n_div, n_ixT, n_ixF, n_not, n_md, n_dec, n_and1, n_and3, n_and7, n_and15, n_and31, n_and63, Nat.mod_eq_of_lt, Nat.zero_add, Nat.add_zero, Nat.zero_mul, Nat.sub_zero, not_false_eq_true, not_true_eq_false, upd_at, upd_ne]) 
      rfl
  | succ d ih =>
    intro x n1 n2 f F hx g1 g2 hI
    obtain ⟨n1, rfl⟩ : ∃ q, n1 = q + 1 := ⟨n1 - 1, by omega⟩
    obtain ⟨n2, rfl⟩ : ∃ q, n2 = q + 1 := ⟨n2 - 1, by omega⟩
    obtain ⟨M, hM⟩ : ∃ M, M = sC m (toC (M_cd m) F) := ⟨_, rfl⟩
    have e8 : f_M_reading M (8 : Int32) = some (NN sz) := (M_reading1 (k := 8) (by decide)).trans (congrArg some (by rw [hM]; exact d2))
    have e9 : f_M_reading M (9 : Int32) = some (NN nc) := (M_reading1 (k := 9) (by decide)).trans (congrArg some (by rw [hM]; exact d5))
    have e0 : M_fault (M_rd M) = NN 0 := by rw [hM]; exact h1
    obtain ⟨c, a, b, t, w1, w2, w3, w4, w5, w6, w7, w8, w9⟩ := d8 x (by omega)
    have hc := w1.1
    have e5 : M_codeSort (M_cd M) (40 + x) = NN (if c = 0 then 24 else c + 6) := by rw [hM]; exact w5
    by_cases g : c < 14
    · have hj := isJump0 g
      rw [← e5, ← tn40 (x := x) (by omega)] at hj
      rcases ih (x + 1) n1 n2 f F (by omega) (by omega) (by omega) ⟨hI.1, fun p c' hp hc' e => ⟨(hI.2 p c' hp hc' e).1, fun z1 z2 => (hI.2 p c' hp hc' e).2.1 z1 (by omega), fun z1 z2 => by
          by_cases q : p = x
          · exfalso
            rw [q, w2] at e
            have := n_inj (by omega) (by omega) e
            omega
          · exact (hI.2 p c' hp hc' e).2.2 z1 (by omega)⟩⟩ with ⟨f', F', u1, u2, u3⟩ | ⟨f', F', p, u1, u2, u3, u4⟩
      · refine Or.inl ⟨f', F', ?_, ?_, u3⟩
        · rw [← u1, f_Rd_findNames_L2]
          repeat first | (with_reducible refine s_nmj1 ?_) | (with_reducible refine s_nmj2 ?_) | ((with_reducible refine s_nm ?_); intro y_ hy_; (try simp (disch := omega) only [n_lit, n_add, n_mul, n_sub, n_tn, n_ltT, n_ltF, n_leT, n_leF, n_eqT, n_eqF, n_div, n_ixT, n_ixF, n_not, n_md, n_dec, n_and1, n_and3, n_and7, n_and15, n_and31, n_and63, Nat.mod_eq_of_lt, Nat.zero_add, Nat.add_zero, Nat.zero_mul, Nat.sub_zero, not_false_eq_true, not_true_eq_false, upd_at, upd_ne, d1, h0, w2] at hy_); subst hy_) | ((with_reducible refine s_pos ?_ ?_); · simp (disch := omega) only [n_lit, n_add, n_mul, n_sub, n_tn, n_ltT, n_ltF, n_leT, n_leF, n_eqT, n_eqF, n_div, n_ixT, n_ixF, n_not, n_md, n_dec, n_and1, n_and3, n_and7, n_and15, n_and31, n_and63, Nat.mod_eq_of_lt, Nat.zero_add, Nat.add_zero, Nat.zero_mul, Nat.sub_zero, not_false_eq_true, not_true_eq_false, upd_at, upd_ne, d1, h0, w2]) | ((with_reducible refine s_neg ?_ ?_); · simp (disch := omega) only [n_lit, n_add, n_mul, n_sub, n_tn, n_ltT, n_ltF, n_leT, n_leF, n_eqT, n_eqF, n_div, n_ixT, n_ixF, n_not, n_md, n_dec, n_and1, n_and3, n_and7, n_and15, n_and31, n_and63, Nat.mod_eq_of_lt, Nat.zero_add, Nat.add_zero, Nat.zero_mul, Nat.sub_zero, not_false_eq_true, not_true_eq_false, upd_at, upd_ne, d1, h0, w2]) 
          rfl
        · rw [← u2, ← hM, f_M_readText_L52]
          refine s_bd e8 ?_
          repeat first | (with_reducible refine s_nmj1 ?_) | (with_reducible refine s_nmj2 ?_) | ((with_reducible refine s_nm ?_); intro y_ hy_; (try simp (disch := omega) only [n_lit, n_add, n_mul, n_sub, n_tn, n_ltT, n_ltF, n_leT, n_leF, n_eqT, n_eqF, n_div, n_ixT, n_ixF, n_not, n_md, n_dec, n_and1, n_and3, n_and7, n_and15, n_and31, n_and63, Nat.mod_eq_of_lt, Nat.zero_add, Nat.add_zero, Nat.zero_mul, Nat.sub_zero, not_false_eq_true, not_true_eq_false, upd_at, upd_ne, e0] at hy_); subst hy_) | ((with_reducible refine s_pos ?_ ?_); · simp (disch := omega) only [n_lit, n_add, n_mul, n_sub, n_tn, n_ltT, n_ltF, n_leT, n_leF, n_eqT, n_eqF, n_div, n_ixT, n_ixF, n_not, n_md, n_dec, n_and1, n_and3, n_and7, n_and15, n_and31, n_and63, Nat.mod_eq_of_lt, Nat.zero_add, Nat.add_zero, Nat.zero_mul, Nat.sub_zero, not_false_eq_true, not_true_eq_false, upd_at, upd_ne, e0]) | ((with_reducible refine s_neg ?_ ?_); · simp (disch := omega) only [n_lit, n_add, n_mul, n_sub, n_tn, n_ltT, n_ltF, n_leT, n_leF, n_eqT, n_eqF, n_div, n_ixT, n_ixF, n_not, n_md, n_dec, n_and1, n_and3, n_and7, n_and15, n_and31, n_and63, Nat.mod_eq_of_lt, Nat.zero_add, Nat.add_zero, Nat.zero_mul, Nat.sub_zero, not_false_eq_true, not_true_eq_false, upd_at, upd_ne, e0])  | (with_reducible refine s_bd hj ?_)
          rfl
      · refine Or.inr ⟨f', F', p, u1, ?_, ?_, u4⟩
        · rw [← u2, f_Rd_findNames_L2]
          repeat first | (with_reducible refine s_nmj1 ?_) | (with_reducible refine s_nmj2 ?_) | ((with_reducible refine s_nm ?_); intro y_ hy_; (try simp (disch := omega) only [n_lit, n_add, n_mul, n_sub, n_tn, n_ltT, n_ltF, n_leT, n_leF, n_eqT, n_eqF, n_div, n_ixT, n_ixF, n_not, n_md, n_dec, n_and1, n_and3, n_and7, n_and15, n_and31, n_and63, Nat.mod_eq_of_lt, Nat.zero_add, Nat.add_zero, Nat.zero_mul, Nat.sub_zero, not_false_eq_true, not_true_eq_false, upd_at, upd_ne, d1, h0, w2] at hy_); subst hy_) | ((with_reducible refine s_pos ?_ ?_); · simp (disch := omega) only [n_lit, n_add, n_mul, n_sub, n_tn, n_ltT, n_ltF, n_leT, n_leF, n_eqT, n_eqF, n_div, n_ixT, n_ixF, n_not, n_md, n_dec, n_and1, n_and3, n_and7, n_and15, n_and31, n_and63, Nat.mod_eq_of_lt, Nat.zero_add, Nat.add_zero, Nat.zero_mul, Nat.sub_zero, not_false_eq_true, not_true_eq_false, upd_at, upd_ne, d1, h0, w2]) | ((with_reducible refine s_neg ?_ ?_); · simp (disch := omega) only [n_lit, n_add, n_mul, n_sub, n_tn, n_ltT, n_ltF, n_leT, n_leF, n_eqT, n_eqF, n_div, n_ixT, n_ixF, n_not, n_md, n_dec, n_and1, n_and3, n_and7, n_and15, n_and31, n_and63, Nat.mod_eq_of_lt, Nat.zero_add, Nat.add_zero, Nat.zero_mul, Nat.sub_zero, not_false_eq_true, not_true_eq_false, upd_at, upd_ne, d1, h0, w2]) 
          rfl
        · rw [← u3, ← hM, f_M_readText_L52]
          refine s_bd e8 ?_
          repeat first | (with_reducible refine s_nmj1 ?_) | (with_reducible refine s_nmj2 ?_) | ((with_reducible refine s_nm ?_); intro y_ hy_; (try simp (disch := omega) only [n_lit, n_add, n_mul, n_sub, n_tn, n_ltT, n_ltF, n_leT, n_leF, n_eqT, n_eqF, n_div, n_ixT, n_ixF, n_not, n_md, n_dec, n_and1, n_and3, n_and7, n_and15, n_and31, n_and63, Nat.mod_eq_of_lt, Nat.zero_add, Nat.add_zero, Nat.zero_mul, Nat.sub_zero, not_false_eq_true, not_true_eq_false, upd_at, upd_ne, e0] at hy_); subst hy_) | ((with_reducible refine s_pos ?_ ?_); · simp (disch := omega) only [n_lit, n_add, n_mul, n_sub, n_tn, n_ltT, n_ltF, n_leT, n_leF, n_eqT, n_eqF, n_div, n_ixT, n_ixF, n_not, n_md, n_dec, n_and1, n_and3, n_and7, n_and15, n_and31, n_and63, Nat.mod_eq_of_lt, Nat.zero_add, Nat.add_zero, Nat.zero_mul, Nat.sub_zero, not_false_eq_true, not_true_eq_false, upd_at, upd_ne, e0]) | ((with_reducible refine s_neg ?_ ?_); · simp (disch := omega) only [n_lit, n_add, n_mul, n_sub, n_tn, n_ltT, n_ltF, n_leT, n_leF, n_eqT, n_eqF, n_div, n_ixT, n_ixF, n_not, n_md, n_dec, n_and1, n_and3, n_and7, n_and15, n_and31, n_and63, Nat.mod_eq_of_lt, Nat.zero_add, Nat.add_zero, Nat.zero_mul, Nat.sub_zero, not_false_eq_true, not_true_eq_false, upd_at, upd_ne, e0])  | (with_reducible refine s_bd hj ?_)
          rfl
    · have hj := isJump1 (c := c) (by omega)
      rw [← e5, ← tn40 (x := x) (by omega)] at hj
      obtain ⟨z1, w, z2, z3, z4⟩ := w9 (by omega)
      have hfx : f x = M_codeName (M_cd M) (40 + x) := by rw [(hI.2 x c (by omega) hc w2).2.1 (by omega) (Nat.le_refl _), z1, hM]; rfl
      have hpl : M_codePlace (M_cd M) (40 + x) = NN w := by rw [hM]; exact z4
      rcases LBP (pr := t3P pr f) (m := M) (nc := nc) (b := 140) d6 (by omega) d4 (fun k hk => by rw [hM]; exact (d7 k hk).1) (f x) with ⟨j, j1, j2, j3⟩ | ⟨j2, j3⟩
      · obtain ⟨-, a', y1, y2, y3⟩ := d7 j j1
        have y2' : Pg_namedPlaces (t3P pr f) j = NN a' := y2
        have y3' : M_labelAt (M_cd M) (140 + j) = NN a' := by rw [hM]; exact y3
        rw [y2'] at j2
        rw [hfx, ← tn40 (x := x) (by omega)] at j3
        have j2 : f_Pg_placeOf (t3P pr f) (f (NN x).toNatClampNeg) = some (NN a') := by rw [tn0 (by omega)]; exact j2
        have nI : NMI pr m sz (x + 1) (upd f x (NN a')) (upd F (40 + x) (NN a')) := by
          refine ⟨fun k hk => by rw [upd_ne (by omega)]; exact hI.1 k hk, fun p c' hp hc' e => ?_⟩
          by_cases q : p = x
          · subst q
            have := n_inj (by omega) (by omega) (w2.symm.trans e)
            refine ⟨fun h => by omega, fun _ h => by omega, fun _ _ => ⟨a', y1, upd_at rfl, upd_at rfl⟩⟩
          · rw [upd_ne q, upd_ne (by omega)]
            exact ⟨(hI.2 p c' hp hc' e).1, fun z1 z2 => (hI.2 p c' hp hc' e).2.1 z1 (by omega), fun z1 z2 => (hI.2 p c' hp hc' e).2.2 z1 (by omega)⟩
        have eC : ∀ R, f_Rd_findNames_L2 pr k2 n1 (NN (x + 1)) (upd f x (NN a')) rd = R → f_Rd_findNames_L2 pr k2 (n1 + 1) (NN x) f rd = R := by
          intro R hR
          rw [← hR, f_Rd_findNames_L2]
          repeat first | (with_reducible refine s_nmj1 ?_) | (with_reducible refine s_nmj2 ?_) | ((with_reducible refine s_nm ?_); intro y_ hy_; (try simp (disch := omega) only [n_lit, n_add, n_mul, n_sub, n_tn, n_ltT, n_ltF, n_leT, n_leF, n_eqT, n_eqF, n_div, n_ixT, n_ixF, n_not, n_md, n_dec, n_and1, n_and3, n_and7, n_and15, n_and31, n_and63, Nat.mod_eq_of_lt, Nat.zero_add, Nat.add_zero, Nat.zero_mul, Nat.sub_zero, not_false_eq_true, not_true_eq_false, upd_at, upd_ne, d1, h0, w2] at hy_); subst hy_) | ((with_reducible refine s_pos ?_ ?_); · simp (disch := omega) only [n_lit, n_add, n_mul, n_sub, n_tn, n_ltT, n_ltF, n_leT, n_leF, n_eqT, n_eqF, n_div, n_ixT, n_ixF, n_not, n_md, n_dec, n_and1, n_and3, n_and7, n_and15, n_and31, n_and63, Nat.mod_eq_of_lt, Nat.zero_add, Nat.add_zero, Nat.zero_mul, Nat.sub_zero, not_false_eq_true, not_true_eq_false, upd_at, upd_ne, d1, h0, w2]) | ((with_reducible refine s_neg ?_ ?_); · simp (disch := omega) only [n_lit, n_add, n_mul, n_sub, n_tn, n_ltT, n_ltF, n_leT, n_leF, n_eqT, n_eqF, n_div, n_ixT, n_ixF, n_not, n_md, n_dec, n_and1, n_and3, n_and7, n_and15, n_and31, n_and63, Nat.mod_eq_of_lt, Nat.zero_add, Nat.add_zero, Nat.zero_mul, Nat.sub_zero, not_false_eq_true, not_true_eq_false, upd_at, upd_ne, d1, h0, w2])  | (with_reducible refine s_bd j2 ?_) | (with_reducible refine s_neg (n_m1' (by omega)) ?_)
          rfl
        have j3 : f_M_labelled M (140 : Int32) (NN nc) (M_codeName (M_cd M) ((40 : Int32) + NN x).toNatClampNeg) = some (NN j) := j3
        have eM : ∀ R, f_M_readText_L52 k52 n2 (NN (x + 1)) (sC m (toC (M_cd m) (upd F (40 + x) (NN a')))) = R → f_M_readText_L52 k52 (n2 + 1) (NN x) (sC m (toC (M_cd m) F)) = R := by
          intro R hR
          have hMt : M_codeTo (M_cd M) = F := by rw [hM]; rfl
          rw [← hR, ← hM, f_M_readText_L52]
          refine s_bd e8 ?_
          repeat first | (with_reducible refine s_nmj1 ?_) | (with_reducible refine s_nmj2 ?_) | ((with_reducible refine s_nm ?_); intro y_ hy_; (try simp (disch := omega) only [n_lit, n_add, n_mul, n_sub, n_tn, n_ltT, n_ltF, n_leT, n_leF, n_eqT, n_eqF, n_div, n_ixT, n_ixF, n_not, n_md, n_dec, n_and1, n_and3, n_and7, n_and15, n_and31, n_and63, Nat.mod_eq_of_lt, Nat.zero_add, Nat.add_zero, Nat.zero_mul, Nat.sub_zero, not_false_eq_true, not_true_eq_false, upd_at, upd_ne, e0, y3'] at hy_); subst hy_) | ((with_reducible refine s_pos ?_ ?_); · simp (disch := omega) only [n_lit, n_add, n_mul, n_sub, n_tn, n_ltT, n_ltF, n_leT, n_leF, n_eqT, n_eqF, n_div, n_ixT, n_ixF, n_not, n_md, n_dec, n_and1, n_and3, n_and7, n_and15, n_and31, n_and63, Nat.mod_eq_of_lt, Nat.zero_add, Nat.add_zero, Nat.zero_mul, Nat.sub_zero, not_false_eq_true, not_true_eq_false, upd_at, upd_ne, e0, y3']) | ((with_reducible refine s_neg ?_ ?_); · simp (disch := omega) only [n_lit, n_add, n_mul, n_sub, n_tn, n_ltT, n_ltF, n_leT, n_leF, n_eqT, n_eqF, n_div, n_ixT, n_ixF, n_not, n_md, n_dec, n_and1, n_and3, n_and7, n_and15, n_and31, n_and63, Nat.mod_eq_of_lt, Nat.zero_add, Nat.add_zero, Nat.zero_mul, Nat.sub_zero, not_false_eq_true, not_true_eq_false, upd_at, upd_ne, e0, y3'])  | (with_reducible refine s_neg (n_m1' (by omega)) ?_) | (with_reducible refine s_bd hj ?_) | (with_reducible refine s_bd e9 ?_) | (with_reducible refine s_bd j3 ?_)
          rw [hMt, hM]
          rfl
        rcases ih (x + 1) n1 n2 _ _ (by omega) (by omega) (by omega) nI with ⟨f', F', u1, u2, u3⟩ | ⟨f', F', p, u1, u2, u3, u4⟩
        · exact Or.inl ⟨f', F', eC _ u1, eM _ u2, u3⟩
        · exact Or.inr ⟨f', F', p, u1, eC _ u2, eM _ u3, u4⟩
      · rw [hfx, ← tn40 (x := x) (by omega)] at j3
        have j2 : f_Pg_placeOf (t3P pr f) (f (NN x).toNatClampNeg) = some (-1 : Int32) := by rw [tn0 (by omega)]; exact j2
        obtain ⟨n1, rfl⟩ : ∃ q, n1 = q + 1 := ⟨n1 - 1, by omega⟩
        obtain ⟨n2, rfl⟩ : ∃ q, n2 = q + 1 := ⟨n2 - 1, by omega⟩
        have j3 : f_M_labelled M (140 : Int32) (NN nc) (M_codeName (M_cd M) ((40 : Int32) + NN x).toNatClampNeg) = some (-1 : Int32) := j3
        obtain ⟨W, hW⟩ : ∃ W, W = wM M (NN 4) (NN w) := ⟨_, rfl⟩
        have e8W : f_M_reading W (8 : Int32) = some (NN sz) := (M_reading1 (k := 8) (by decide)).trans (congrArg some (by rw [hW, hM]; exact d2))
        have e0W : M_fault (M_rd W) = NN 4 := by rw [hW]; rfl
        have eWr : f_M_wrongAt M (4 : Int32) (M_codePlace (M_cd M) ((40 : Int32) + NN x).toNatClampNeg) = some W := by rw [hW, tn40 (by omega), hpl]; exact M_wrongAt0 e0 _ _
        obtain ⟨R2, hR2⟩ : ∃ R2, R2 = wR rd (NN 4) (NN w) := ⟨_, rfl⟩
        have e0R : Rd_fault R2 = NN 4 := by rw [hR2]; rfl
        have eF : f_Rd_fail rd (4 : Int32) (Rd_wantedPlaces rd (NN x).toNatClampNeg) = some R2 := by rw [hR2, tn0 (by omega), z3]; rfl
        refine Or.inr ⟨upd f x (-1), F, w, z2, ?_, ?_, hI.1⟩
        · rw [← hR2, f_Rd_findNames_L2]
          repeat first | (with_reducible refine s_nmj1 ?_) | (with_reducible refine s_nmj2 ?_) | ((with_reducible refine s_nm ?_); intro y_ hy_; (try simp (disch := omega) only [n_lit, n_add, n_mul, n_sub, n_tn, n_ltT, n_ltF, n_leT, n_leF, n_eqT, n_eqF, n_div, n_ixT, n_ixF, n_not, n_md, n_dec, n_and1, n_and3, n_and7, n_and15, n_and31, n_and63, Nat.mod_eq_of_lt, Nat.zero_add, Nat.add_zero, Nat.zero_mul, Nat.sub_zero, not_false_eq_true, not_true_eq_false, upd_at, upd_ne, d1, h0, w2, z3] at hy_); subst hy_) | ((with_reducible refine s_pos ?_ ?_); · simp (disch := omega) only [n_lit, n_add, n_mul, n_sub, n_tn, n_ltT, n_ltF, n_leT, n_leF, n_eqT, n_eqF, n_div, n_ixT, n_ixF, n_not, n_md, n_dec, n_and1, n_and3, n_and7, n_and15, n_and31, n_and63, Nat.mod_eq_of_lt, Nat.zero_add, Nat.add_zero, Nat.zero_mul, Nat.sub_zero, not_false_eq_true, not_true_eq_false, upd_at, upd_ne, d1, h0, w2, z3]) | ((with_reducible refine s_neg ?_ ?_); · simp (disch := omega) only [n_lit, n_add, n_mul, n_sub, n_tn, n_ltT, n_ltF, n_leT, n_leF, n_eqT, n_eqF, n_div, n_ixT, n_ixF, n_not, n_md, n_dec, n_and1, n_and3, n_and7, n_and15, n_and31, n_and63, Nat.mod_eq_of_lt, Nat.zero_add, Nat.add_zero, Nat.zero_mul, Nat.sub_zero, not_false_eq_true, not_true_eq_false, upd_at, upd_ne, d1, h0, w2, z3])  | (with_reducible refine s_bd j2 ?_) | (with_reducible refine s_bd eF ?_)
          rw [f_Rd_findNames_L2]
          by_cases q : sz ≤ x + 1
          · repeat first | (with_reducible refine s_nmj1 ?_) | (with_reducible refine s_nmj2 ?_) | ((with_reducible refine s_nm ?_); intro y_ hy_; (try simp (disch := omega) only [n_lit, n_add, n_mul, n_sub, n_tn, n_ltT, n_ltF, n_leT, n_leF, n_eqT, n_eqF, n_div, n_ixT, n_ixF, n_not, n_md, n_dec, n_and1, n_and3, n_and7, n_and15, n_and31, n_and63, Nat.mod_eq_of_lt, Nat.zero_add, Nat.add_zero, Nat.zero_mul, Nat.sub_zero, not_false_eq_true, not_true_eq_false, upd_at, upd_ne, d1] at hy_); subst hy_) | ((with_reducible refine s_pos ?_ ?_); · simp (disch := omega) only [n_lit, n_add, n_mul, n_sub, n_tn, n_ltT, n_ltF, n_leT, n_leF, n_eqT, n_eqF, n_div, n_ixT, n_ixF, n_not, n_md, n_dec, n_and1, n_and3, n_and7, n_and15, n_and31, n_and63, Nat.mod_eq_of_lt, Nat.zero_add, Nat.add_zero, Nat.zero_mul, Nat.sub_zero, not_false_eq_true, not_true_eq_false, upd_at, upd_ne, d1]) | ((with_reducible refine s_neg ?_ ?_); · simp (disch := omega) only [n_lit, n_add, n_mul, n_sub, n_tn, n_ltT, n_ltF, n_leT, n_leF, n_eqT, n_eqF, n_div, n_ixT, n_ixF, n_not, n_md, n_dec, n_and1, n_and3, n_and7, n_and15, n_and31, n_and63, Nat.mod_eq_of_lt, Nat.zero_add, Nat.add_zero, Nat.zero_mul, Nat.sub_zero, not_false_eq_true, not_true_eq_false, upd_at, upd_ne, d1]) 
            rfl
          · repeat first | (with_reducible refine s_nmj1 ?_) | (with_reducible refine s_nmj2 ?_) | ((with_reducible refine s_nm ?_); intro y_ hy_; (try simp (disch := omega) only [n_lit, n_add, n_mul, n_sub, n_tn, n_ltT, n_ltF, n_leT, n_leF, n_eqT, n_eqF, n_div, n_ixT, n_ixF, n_not, n_md, n_dec, n_and1, n_and3, n_and7, n_and15, n_and31, n_and63, Nat.mod_eq_of_lt, Nat.zero_add, Nat.add_zero, Nat.zero_mul, Nat.sub_zero, not_false_eq_true, not_true_eq_false, upd_at, upd_ne, d1, e0R] at hy_); subst hy_) | ((with_reducible refine s_pos ?_ ?_); · simp (disch := omega) only [n_lit, n_add, n_mul, n_sub, n_tn, n_ltT, n_ltF, n_leT, n_leF, n_eqT, n_eqF, n_div, n_ixT, n_ixF, n_not, n_md, n_dec, n_and1, n_and3, n_and7, n_and15, n_and31, n_and63, Nat.mod_eq_of_lt, Nat.zero_add, Nat.add_zero, Nat.zero_mul, Nat.sub_zero, not_false_eq_true, not_true_eq_false, upd_at, upd_ne, d1, e0R]) | ((with_reducible refine s_neg ?_ ?_); · simp (disch := omega) only [n_lit, n_add, n_mul, n_sub, n_tn, n_ltT, n_ltF, n_leT, n_leF, n_eqT, n_eqF, n_div, n_ixT, n_ixF, n_not, n_md, n_dec, n_and1, n_and3, n_and7, n_and15, n_and31, n_and63, Nat.mod_eq_of_lt, Nat.zero_add, Nat.add_zero, Nat.zero_mul, Nat.sub_zero, not_false_eq_true, not_true_eq_false, upd_at, upd_ne, d1, e0R]) 
            rfl
        · rw [← hM, ← hW, f_M_readText_L52]
          refine s_bd e8 ?_
          repeat first | (with_reducible refine s_nmj1 ?_) | (with_reducible refine s_nmj2 ?_) | ((with_reducible refine s_nm ?_); intro y_ hy_; (try simp (disch := omega) only [n_lit, n_add, n_mul, n_sub, n_tn, n_ltT, n_ltF, n_leT, n_leF, n_eqT, n_eqF, n_div, n_ixT, n_ixF, n_not, n_md, n_dec, n_and1, n_and3, n_and7, n_and15, n_and31, n_and63, Nat.mod_eq_of_lt, Nat.zero_add, Nat.add_zero, Nat.zero_mul, Nat.sub_zero, not_false_eq_true, not_true_eq_false, upd_at, upd_ne, e0, hpl] at hy_); subst hy_) | ((with_reducible refine s_pos ?_ ?_); · simp (disch := omega) only [n_lit, n_add, n_mul, n_sub, n_tn, n_ltT, n_ltF, n_leT, n_leF, n_eqT, n_eqF, n_div, n_ixT, n_ixF, n_not, n_md, n_dec, n_and1, n_and3, n_and7, n_and15, n_and31, n_and63, Nat.mod_eq_of_lt, Nat.zero_add, Nat.add_zero, Nat.zero_mul, Nat.sub_zero, not_false_eq_true, not_true_eq_false, upd_at, upd_ne, e0, hpl]) | ((with_reducible refine s_neg ?_ ?_); · simp (disch := omega) only [n_lit, n_add, n_mul, n_sub, n_tn, n_ltT, n_ltF, n_leT, n_leF, n_eqT, n_eqF, n_div, n_ixT, n_ixF, n_not, n_md, n_dec, n_and1, n_and3, n_and7, n_and15, n_and31, n_and63, Nat.mod_eq_of_lt, Nat.zero_add, Nat.add_zero, Nat.zero_mul, Nat.sub_zero, not_false_eq_true, not_true_eq_false, upd_at, upd_ne, e0, hpl])  | (with_reducible refine s_bd hj ?_) | (with_reducible refine s_bd e9 ?_) | (with_reducible refine s_bd j3 ?_) | (with_reducible refine s_bd eWr ?_)
          rw [f_M_readText_L52]
          refine s_bd e8W ?_
          by_cases q : sz ≤ x + 1
          · repeat first | (with_reducible refine s_nmj1 ?_) | (with_reducible refine s_nmj2 ?_) | ((with_reducible refine s_nm ?_); intro y_ hy_; (try simp (disch := omega) only [n_lit, n_add, n_mul, n_sub, n_tn, n_ltT, n_ltF, n_leT, n_leF, n_eqT, n_eqF, n_div, n_ixT, n_ixF, n_not, n_md, n_dec, n_and1, n_and3, n_and7, n_and15, n_and31, n_and63, Nat.mod_eq_of_lt, Nat.zero_add, Nat.add_zero, Nat.zero_mul, Nat.sub_zero, not_false_eq_true, not_true_eq_false, upd_at, upd_ne] at hy_); subst hy_) | ((with_reducible refine s_pos ?_ ?_); · simp (disch := omega) only [n_lit, n_add, n_mul, n_sub, n_tn, n_ltT, n_ltF, n_leT, n_leF, n_eqT, n_eqF, n_div, n_ixT, n_ixF, n_not, n_md, n_dec, n_and1, n_and3, n_and7, n_and15, n_and31, n_and63, Nat.mod_eq_of_lt, Nat.zero_add, Nat.add_zero, Nat.zero_mul, Nat.sub_zero, not_false_eq_true, not_true_eq_false, upd_at, upd_ne]) | ((with_reducible refine s_neg ?_ ?_); · simp (disch := omega) only [n_lit, n_add, n_mul, n_sub, n_tn, n_ltT, n_ltF, n_leT, n_leF, n_eqT, n_eqF, n_div, n_ixT, n_ixF, n_not, n_md, n_dec, n_and1, n_and3, n_and7, n_and15, n_and31, n_and63, Nat.mod_eq_of_lt, Nat.zero_add, Nat.add_zero, Nat.zero_mul, Nat.sub_zero, not_false_eq_true, not_true_eq_false, upd_at, upd_ne]) 
            rfl
          · repeat first | (with_reducible refine s_nmj1 ?_) | (with_reducible refine s_nmj2 ?_) | ((with_reducible refine s_nm ?_); intro y_ hy_; (try simp (disch := omega) only [n_lit, n_add, n_mul, n_sub, n_tn, n_ltT, n_ltF, n_leT, n_leF, n_eqT, n_eqF, n_div, n_ixT, n_ixF, n_not, n_md, n_dec, n_and1, n_and3, n_and7, n_and15, n_and31, n_and63, Nat.mod_eq_of_lt, Nat.zero_add, Nat.add_zero, Nat.zero_mul, Nat.sub_zero, not_false_eq_true, not_true_eq_false, upd_at, upd_ne, e0W] at hy_); subst hy_) | ((with_reducible refine s_pos ?_ ?_); · simp (disch := omega) only [n_lit, n_add, n_mul, n_sub, n_tn, n_ltT, n_ltF, n_leT, n_leF, n_eqT, n_eqF, n_div, n_ixT, n_ixF, n_not, n_md, n_dec, n_and1, n_and3, n_and7, n_and15, n_and31, n_and63, Nat.mod_eq_of_lt, Nat.zero_add, Nat.add_zero, Nat.zero_mul, Nat.sub_zero, not_false_eq_true, not_true_eq_false, upd_at, upd_ne, e0W]) | ((with_reducible refine s_neg ?_ ?_); · simp (disch := omega) only [n_lit, n_add, n_mul, n_sub, n_tn, n_ltT, n_ltF, n_leT, n_leF, n_eqT, n_eqF, n_div, n_ixT, n_ixF, n_not, n_md, n_dec, n_and1, n_and3, n_and7, n_and15, n_and31, n_and63, Nat.mod_eq_of_lt, Nat.zero_add, Nat.add_zero, Nat.zero_mul, Nat.sub_zero, not_false_eq_true, not_true_eq_false, upd_at, upd_ne, e0W]) 
            rfl
