/-! LINES: what has been read so far, class and model -/
def bdR (k r : Nat) : Prop := (k = 0 → 1 ≤ r ∧ r ≤ 40) ∧ (k = 1 → r ≤ 8) ∧ (k = 2 → r ≤ 9) ∧ (3 ≤ k ∧ k ≤ 5 → r ≤ 8) ∧ (k = 6 → 1 ≤ r ∧ r ≤ 9) ∧ (k = 7 → r < 100000)
def tb (x : Int32) (w : Nat) : Int32 := (x >>> NN w) &&& NN 1
def DR (rd : T_Rd) (pr : T_Pg) (m : T_M) (sz nc : Nat) : Prop :=
  (Pg_size pr = NN sz ∧ M_number (M_cd m) 18 = NN sz ∧ sz ≤ 40) ∧ (Pg_nameCount pr = NN nc ∧ M_number (M_cd m) 19 = NN nc ∧ nc ≤ 140) ∧ Pg_lines pr = M_lines (M_rd m) ∧
  (∀ k, k < 8 → ∃ r, bdR k r ∧ Pg_rules pr k = NN r ∧ M_number (M_cd m) (10 + k) = NN r) ∧ (∀ a, a < 32 → Pg_data pr a = M_data (M_cd m) (32 + a)) ∧
  (∀ k, k < nc → Pg_names pr k = M_labelName (M_cd m) (140 + k) ∧ ∃ a, a ≤ 40 ∧ Pg_namedPlaces pr k = NN a ∧ M_labelAt (M_cd m) (140 + k) = NN a) ∧
  (∀ p, sz ≤ p → p < 64 → Pg_code pr p = NN 0) ∧
  (∀ p, p < sz → ∃ c a b d, IN c a b d ∧ Pg_code pr p = NN c ∧ Pg_first pr p = NN a ∧ Pg_second pr p = NN b ∧ M_codeSort (M_cd m) (40 + p) = NN (if c = 0 then 24 else c + 6) ∧ M_codeA (M_cd m) (40 + p) = NN a ∧ M_codeB (M_cd m) (40 + p) = NN b ∧
    (c < 14 → Pg_third pr p = NN d ∧ M_codeC (M_cd m) (40 + p) = NN d) ∧ (14 ≤ c → Pg_third pr p = M_codeName (M_cd m) (40 + p) ∧ ∃ w, w ≤ 700 ∧ Rd_wantedPlaces rd p = NN w ∧ M_codePlace (M_cd m) (40 + p) = NN w)) ∧
  (∀ w, w < 25 → tb (Rd_toldRules rd) w = if w < 5 then M_isTold (M_rd m) w else NN 0) ∧ (∀ w, w < 5 → M_isTold (M_rd m) w = NN 0 ∨ M_isTold (M_rd m) w = NN 1) ∧
  (∀ a, a < 32 → tb (Rd_toldData rd) a = M_hasData (M_rd m) a) ∧ (∀ a, a < 32 → M_hasData (M_rd m) a = NN 0 ∨ M_hasData (M_rd m) a = NN 1)
theorem tb_or {x : Int32} {w a : Nat} (hw : w < 32) (ha : a < 32) : tb (x ||| (NN 1 <<< NN a)) w = if w = a then NN 1 else tb x w := by
  unfold tb
  rw [n_shl a ha]
  have e : ∀ b, b < 32 → ((NN b).toBitVec.smod 32).toNat = b := by decide
  have one : ∀ i, (NN 1).toBitVec.getLsbD i = decide (i = 0) := by
    intro i
    show (1#32).getLsbD i = _
    rw [BitVec.getLsbD_one]
    by_cases q : i = 0
    · subst q; rfl
    · simp [q]
  have pw : ∀ i, (NN (2 ^ a)).toBitVec.getLsbD i = (decide (i < 32) && decide (i = a)) := by
    intro i
    show (BitVec.ofNat 32 (2 ^ a)).getLsbD i = _
    rw [BitVec.getLsbD_ofNat, Nat.testBit_two_pow]
    by_cases q : a = i
    · subst q; simp
    · have : ¬ i = a := fun h => q h.symm
      simp [q, this]
  have sh : ∀ y : Int32, ∀ i, (y >>> NN w).toBitVec.getLsbD i = (y.toBitVec.sshiftRight w).getLsbD i := by
    intro y i
    rw [Int32.toBitVec_shiftRight]
    show (y.toBitVec.sshiftRight ((NN w).toBitVec.smod 32).toNat).getLsbD i = _
    rw [e w hw]
  by_cases q : w = a
  · rw [if_pos q]
    apply Int32.toBitVec_inj.mp
    apply BitVec.eq_of_getLsbD_eq
    intro i hi
    rw [Int32.toBitVec_and, BitVec.getLsbD_and, sh, one]
    by_cases qi : i = 0
    · subst qi
      rw [BitVec.getLsbD_sshiftRight, Int32.toBitVec_or, BitVec.getLsbD_or, pw]
      subst q
      simp [hw]
    · simp [qi]
  · rw [if_neg q]
    apply Int32.toBitVec_inj.mp
    apply BitVec.eq_of_getLsbD_eq
    intro i hi
    rw [Int32.toBitVec_and, BitVec.getLsbD_and, sh, one, Int32.toBitVec_and, BitVec.getLsbD_and, sh, one]
    by_cases qi : i = 0
    · subst qi
      rw [BitVec.getLsbD_sshiftRight, BitVec.getLsbD_sshiftRight, Int32.toBitVec_or, BitVec.getLsbD_or, pw]
      simp [hw, q]
    · simp [qi]
def z3 (f : Nat → Int32) : Nat → Int32 := upd (upd (upd f 0 (NN 0)) 1 (NN 0)) 2 (NN 0)
theorem z3_0 (f : Nat → Int32) : ∀ j, j < 3 → z3 f j = NN 0 := by
  intro j hj
  unfold z3
  rcases (by omega : j = 0 ∨ j = 1 ∨ j = 2) with rfl | rfl | rfl
  · rw [upd_ne (by omega), upd_ne (by omega), upd_at rfl]
  · rw [upd_ne (by omega), upd_at rfl]
  · rw [upd_at rfl]
def pL (pr : T_Pg) (x : Int32) : T_Pg := ((Pg_code pr), (Pg_first pr), (Pg_second pr), (Pg_third pr), (Pg_rules pr), (Pg_data pr), (Pg_names pr), (Pg_namedPlaces pr), (Pg_nameCount pr), (Pg_size pr), x)
def KL (pr : T_Pg) (y1 : Int32) (v10 : T_Rd) : Option (T_Rd × T_Pg) := (nm (fun (v22 : T_Rd) => ((if (Rd_fault v22) = (0 : Int32) then (nm ((Pg_lines pr) + (1 : Int32)) fun (x25 : Int32) => (bd2 (f_Rd_takeLine v22 ((Pg_code pr), (Pg_first pr), (Pg_second pr), (Pg_third pr), (Pg_rules pr), (Pg_data pr), (Pg_names pr), (Pg_namedPlaces pr), (Pg_nameCount pr), (Pg_size pr), x25) y1) fun (v26 : T_Rd) (v27 : T_Pg) => (some (v26, v27)))) else (some (v22, pr))) : Option (T_Rd × T_Pg))) fun J23 => (if (Rd_fault v10) = (0 : Int32) then (bd (f_Rd_advance v10) fun (v30 : T_Rd) => (if (Rd_token v30) = (3 : Int32) then (J23 v30) else (bd (f_Rd_fail v30 (1 : Int32) (Rd_place v30)) fun (v33 : T_Rd) => (J23 v33)))) else (J23 v10)))
theorem bd2_id {α β : Type} (o : Option (α × β)) : (bd2 o fun a b => some (a, b)) = o := by
  cases o with
  | none => rfl
  | some x => rfl
theorem KL_bad {pr : T_Pg} {y : Int32} {v : T_Rd} {f : Nat} (h : Rd_fault v = NN f) (hf : f ≠ 0 ∧ f < 10) : KL pr y v = some (v, pr) := by
  unfold KL
  repeat first | (with_reducible refine s_nmj1 ?_) | (with_reducible refine s_nmj2 ?_) | ((with_reducible refine s_nm ?_); intro y_ hy_; (try simp (disch := omega) only [n_lit, n_add, n_mul, n_sub, n_tn, n_ltT, n_ltF, n_leT, n_leF, n_eqT, n_eqF, n_div, n_ixT, n_ixF, n_not, n_md, n_dec, n_and1, n_and3, n_and7, n_and15, n_and31, n_and63, Nat.mod_eq_of_lt, Nat.zero_add, Nat.add_zero, Nat.zero_mul, Nat.sub_zero, not_false_eq_true, not_true_eq_false, upd_at, upd_ne, h] at hy_); subst hy_) | ((with_reducible refine s_pos ?_ ?_); · simp (disch := omega) only [n_lit, n_add, n_mul, n_sub, n_tn, n_ltT, n_ltF, n_leT, n_leF, n_eqT, n_eqF, n_div, n_ixT, n_ixF, n_not, n_md, n_dec, n_and1, n_and3, n_and7, n_and15, n_and31, n_and63, Nat.mod_eq_of_lt, Nat.zero_add, Nat.add_zero, Nat.zero_mul, Nat.sub_zero, not_false_eq_true, not_true_eq_false, upd_at, upd_ne, h]) | ((with_reducible refine s_neg ?_ ?_); · simp (disch := omega) only [n_lit, n_add, n_mul, n_sub, n_tn, n_ltT, n_ltF, n_leT, n_leF, n_eqT, n_eqF, n_div, n_ixT, n_ixF, n_not, n_md, n_dec, n_and1, n_and3, n_and7, n_and15, n_and31, n_and63, Nat.mod_eq_of_lt, Nat.zero_add, Nat.add_zero, Nat.zero_mul, Nat.sub_zero, not_false_eq_true, not_true_eq_false, upd_at, upd_ne, h]) 
  rfl
theorem KL_semi {pr : T_Pg} {y : Int32} {v v1 : T_Rd} (h : Rd_fault v = NN 0) (e : f_Rd_advance v = some v1) (h1 : Rd_fault v1 = NN 0) (h2 : Rd_token v1 = NN 3) : KL pr y v = f_Rd_takeLine v1 (pL pr (Pg_lines pr + NN 1)) y := by
  unfold KL
  repeat first | (with_reducible refine s_nmj1 ?_) | (with_reducible refine s_nmj2 ?_) | ((with_reducible refine s_nm ?_); intro y_ hy_; (try simp (disch := omega) only [n_lit, n_add, n_mul, n_sub, n_tn, n_ltT, n_ltF, n_leT, n_leF, n_eqT, n_eqF, n_div, n_ixT, n_ixF, n_not, n_md, n_dec, n_and1, n_and3, n_and7, n_and15, n_and31, n_and63, Nat.mod_eq_of_lt, Nat.zero_add, Nat.add_zero, Nat.zero_mul, Nat.sub_zero, not_false_eq_true, not_true_eq_false, upd_at, upd_ne, h, h1, h2] at hy_); subst hy_) | ((with_reducible refine s_pos ?_ ?_); · simp (disch := omega) only [n_lit, n_add, n_mul, n_sub, n_tn, n_ltT, n_ltF, n_leT, n_leF, n_eqT, n_eqF, n_div, n_ixT, n_ixF, n_not, n_md, n_dec, n_and1, n_and3, n_and7, n_and15, n_and31, n_and63, Nat.mod_eq_of_lt, Nat.zero_add, Nat.add_zero, Nat.zero_mul, Nat.sub_zero, not_false_eq_true, not_true_eq_false, upd_at, upd_ne, h, h1, h2]) | ((with_reducible refine s_neg ?_ ?_); · simp (disch := omega) only [n_lit, n_add, n_mul, n_sub, n_tn, n_ltT, n_ltF, n_leT, n_leF, n_eqT, n_eqF, n_div, n_ixT, n_ixF, n_not, n_md, n_dec, n_and1, n_and3, n_and7, n_and15, n_and31, n_and63, Nat.mod_eq_of_lt, Nat.zero_add, Nat.add_zero, Nat.zero_mul, Nat.sub_zero, not_false_eq_true, not_true_eq_false, upd_at, upd_ne, h, h1, h2])  | (with_reducible refine s_bd e ?_)
  exact bd2_id _
theorem KL_no {pr : T_Pg} {y : Int32} {v v1 : T_Rd} {t : Nat} (h : Rd_fault v = NN 0) (e : f_Rd_advance v = some v1) (h2 : Rd_token v1 = NN t) (ht : t ≠ 3 ∧ t < 10) : KL pr y v = some (wR v1 (NN 1) (Rd_place v1), pr) := by
  have hw : Rd_fault (wR v1 (NN 1) (Rd_place v1)) = NN 1 := rfl
  unfold KL
  repeat first | (with_reducible refine s_nmj1 ?_) | (with_reducible refine s_nmj2 ?_) | ((with_reducible refine s_nm ?_); intro y_ hy_; (try simp (disch := omega) only [n_lit, n_add, n_mul, n_sub, n_tn, n_ltT, n_ltF, n_leT, n_leF, n_eqT, n_eqF, n_div, n_ixT, n_ixF, n_not, n_md, n_dec, n_and1, n_and3, n_and7, n_and15, n_and31, n_and63, Nat.mod_eq_of_lt, Nat.zero_add, Nat.add_zero, Nat.zero_mul, Nat.sub_zero, not_false_eq_true, not_true_eq_false, upd_at, upd_ne, h, h2, hw] at hy_); subst hy_) | ((with_reducible refine s_pos ?_ ?_); · simp (disch := omega) only [n_lit, n_add, n_mul, n_sub, n_tn, n_ltT, n_ltF, n_leT, n_leF, n_eqT, n_eqF, n_div, n_ixT, n_ixF, n_not, n_md, n_dec, n_and1, n_and3, n_and7, n_and15, n_and31, n_and63, Nat.mod_eq_of_lt, Nat.zero_add, Nat.add_zero, Nat.zero_mul, Nat.sub_zero, not_false_eq_true, not_true_eq_false, upd_at, upd_ne, h, h2, hw]) | ((with_reducible refine s_neg ?_ ?_); · simp (disch := omega) only [n_lit, n_add, n_mul, n_sub, n_tn, n_ltT, n_ltF, n_leT, n_leF, n_eqT, n_eqF, n_div, n_ixT, n_ixF, n_not, n_md, n_dec, n_and1, n_and3, n_and7, n_and15, n_and31, n_and63, Nat.mod_eq_of_lt, Nat.zero_add, Nat.add_zero, Nat.zero_mul, Nat.sub_zero, not_false_eq_true, not_true_eq_false, upd_at, upd_ne, h, h2, hw])  | (with_reducible refine s_bd e ?_) | (with_reducible refine s_bd (C_fail _ _ _) ?_)
  rfl
/-- what the model does at the end of a LINE -/
def ML (v1 : T_M) : Option T_M := (nm (fun (v3 : T_M) => ((bd (f_M_goOn v3) fun (v5 : T_M) => (nm ((M_lines (M_rd v5)) + (1 : Int32)) fun (x7 : Int32) => (some ((M_tp v5), (x7, (M_size (M_rd v5)), (M_at (M_rd v5)), (M_place (M_rd v5)), (M_sort (M_rd v5)), (M_value (M_rd v5)), (M_fault (M_rd v5)), (M_faultPlace (M_rd v5)), (M_isTold (M_rd v5)), (M_hasData (M_rd v5))), (M_lf v5), (M_cd v5), (M_rn v5), (M_ex v5), (M_im v5), (M_al v5), (M_thrown v5))))) : Option (T_M))) fun J4 => (if (M_fault (M_rd v1)) = (0 : Int32) then (if (M_sort (M_rd v1)) = (3 : Int32) then (J4 v1) else (bd (f_M_wrong v1 (1 : Int32)) fun (v10 : T_M) => (J4 v10))) else (J4 v1)))
def lM (m : T_M) : T_M := ((M_tp m), ((M_lines (M_rd m) + NN 1), (M_size (M_rd m)), (M_at (M_rd m)), (M_place (M_rd m)), (M_sort (M_rd m)), (M_value (M_rd m)), (M_fault (M_rd m)), (M_faultPlace (M_rd m)), (M_isTold (M_rd m)), (M_hasData (M_rd m))), (M_lf m), (M_cd m), (M_rn m), (M_ex m), (M_im m), (M_al m), (M_thrown m))
theorem ML_bad {m : T_M} {f : Nat} (h : M_fault (M_rd m) = NN f) (hf : f ≠ 0 ∧ f < 10) : ML m = some (lM m) := by
  have g := M_goOnB h hf
  unfold ML
  repeat first | (with_reducible refine s_nmj1 ?_) | (with_reducible refine s_nmj2 ?_) | ((with_reducible refine s_nm ?_); intro y_ hy_; (try simp (disch := omega) only [n_lit, n_add, n_mul, n_sub, n_tn, n_ltT, n_ltF, n_leT, n_leF, n_eqT, n_eqF, n_div, n_ixT, n_ixF, n_not, n_md, n_dec, n_and1, n_and3, n_and7, n_and15, n_and31, n_and63, Nat.mod_eq_of_lt, Nat.zero_add, Nat.add_zero, Nat.zero_mul, Nat.sub_zero, not_false_eq_true, not_true_eq_false, upd_at, upd_ne, h] at hy_); subst hy_) | ((with_reducible refine s_pos ?_ ?_); · simp (disch := omega) only [n_lit, n_add, n_mul, n_sub, n_tn, n_ltT, n_ltF, n_leT, n_leF, n_eqT, n_eqF, n_div, n_ixT, n_ixF, n_not, n_md, n_dec, n_and1, n_and3, n_and7, n_and15, n_and31, n_and63, Nat.mod_eq_of_lt, Nat.zero_add, Nat.add_zero, Nat.zero_mul, Nat.sub_zero, not_false_eq_true, not_true_eq_false, upd_at, upd_ne, h]) | ((with_reducible refine s_neg ?_ ?_); · simp (disch := omega) only [n_lit, n_add, n_mul, n_sub, n_tn, n_ltT, n_ltF, n_leT, n_leF, n_eqT, n_eqF, n_div, n_ixT, n_ixF, n_not, n_md, n_dec, n_and1, n_and3, n_and7, n_and15, n_and31, n_and63, Nat.mod_eq_of_lt, Nat.zero_add, Nat.add_zero, Nat.zero_mul, Nat.sub_zero, not_false_eq_true, not_true_eq_false, upd_at, upd_ne, h])  | (with_reducible refine s_bd g ?_)
  rfl
theorem ML_semi {m m1 : T_M} (h : M_fault (M_rd m) = NN 0) (h1 : M_sort (M_rd m) = NN 3) (g : f_M_goOn m = some m1) : ML m = some (lM m1) := by
  unfold ML
  repeat first | (with_reducible refine s_nmj1 ?_) | (with_reducible refine s_nmj2 ?_) | ((with_reducible refine s_nm ?_); intro y_ hy_; (try simp (disch := omega) only [n_lit, n_add, n_mul, n_sub, n_tn, n_ltT, n_ltF, n_leT, n_leF, n_eqT, n_eqF, n_div, n_ixT, n_ixF, n_not, n_md, n_dec, n_and1, n_and3, n_and7, n_and15, n_and31, n_and63, Nat.mod_eq_of_lt, Nat.zero_add, Nat.add_zero, Nat.zero_mul, Nat.sub_zero, not_false_eq_true, not_true_eq_false, upd_at, upd_ne, h, h1] at hy_); subst hy_) | ((with_reducible refine s_pos ?_ ?_); · simp (disch := omega) only [n_lit, n_add, n_mul, n_sub, n_tn, n_ltT, n_ltF, n_leT, n_leF, n_eqT, n_eqF, n_div, n_ixT, n_ixF, n_not, n_md, n_dec, n_and1, n_and3, n_and7, n_and15, n_and31, n_and63, Nat.mod_eq_of_lt, Nat.zero_add, Nat.add_zero, Nat.zero_mul, Nat.sub_zero, not_false_eq_true, not_true_eq_false, upd_at, upd_ne, h, h1]) | ((with_reducible refine s_neg ?_ ?_); · simp (disch := omega) only [n_lit, n_add, n_mul, n_sub, n_tn, n_ltT, n_ltF, n_leT, n_leF, n_eqT, n_eqF, n_div, n_ixT, n_ixF, n_not, n_md, n_dec, n_and1, n_and3, n_and7, n_and15, n_and31, n_and63, Nat.mod_eq_of_lt, Nat.zero_add, Nat.add_zero, Nat.zero_mul, Nat.sub_zero, not_false_eq_true, not_true_eq_false, upd_at, upd_ne, h, h1])  | (with_reducible refine s_bd g ?_)
  rfl
theorem ML_no {m : T_M} {s : Nat} (h : M_fault (M_rd m) = NN 0) (h1 : M_sort (M_rd m) = NN s) (hs : s ≠ 3 ∧ s < 10) : ML m = some (lM (wM m (NN 1) (M_place (M_rd m)))) := by
  have e1 : f_M_wrong m (1 : Int32) = some (wM m (NN 1) (M_place (M_rd m))) := M_wrong0 h (NN 1)
  have g : f_M_goOn (wM m (NN 1) (M_place (M_rd m))) = some _ := M_goOnB (f := 1) rfl (by omega)
  unfold ML
  repeat first | (with_reducible refine s_nmj1 ?_) | (with_reducible refine s_nmj2 ?_) | ((with_reducible refine s_nm ?_); intro y_ hy_; (try simp (disch := omega) only [n_lit, n_add, n_mul, n_sub, n_tn, n_ltT, n_ltF, n_leT, n_leF, n_eqT, n_eqF, n_div, n_ixT, n_ixF, n_not, n_md, n_dec, n_and1, n_and3, n_and7, n_and15, n_and31, n_and63, Nat.mod_eq_of_lt, Nat.zero_add, Nat.add_zero, Nat.zero_mul, Nat.sub_zero, not_false_eq_true, not_true_eq_false, upd_at, upd_ne, h, h1] at hy_); subst hy_) | ((with_reducible refine s_pos ?_ ?_); · simp (disch := omega) only [n_lit, n_add, n_mul, n_sub, n_tn, n_ltT, n_ltF, n_leT, n_leF, n_eqT, n_eqF, n_div, n_ixT, n_ixF, n_not, n_md, n_dec, n_and1, n_and3, n_and7, n_and15, n_and31, n_and63, Nat.mod_eq_of_lt, Nat.zero_add, Nat.add_zero, Nat.zero_mul, Nat.sub_zero, not_false_eq_true, not_true_eq_false, upd_at, upd_ne, h, h1]) | ((with_reducible refine s_neg ?_ ?_); · simp (disch := omega) only [n_lit, n_add, n_mul, n_sub, n_tn, n_ltT, n_ltF, n_leT, n_leF, n_eqT, n_eqF, n_div, n_ixT, n_ixF, n_not, n_md, n_dec, n_and1, n_and3, n_and7, n_and15, n_and31, n_and63, Nat.mod_eq_of_lt, Nat.zero_add, Nat.add_zero, Nat.zero_mul, Nat.sub_zero, not_false_eq_true, not_true_eq_false, upd_at, upd_ne, h, h1])  | (with_reducible refine s_bd e1 ?_) | (with_reducible refine s_bd g ?_)
  rfl
theorem TK_semi {tok val sort value : Int32} {T : Nat → Nat} {n pl q : Nat} (h : TK tok val sort value T n pl q) : (tok = NN 3 ∧ sort = NN 3 ∧ pl < q) ∨ ∃ t s, t ≠ 3 ∧ t < 10 ∧ s ≠ 3 ∧ s < 10 ∧ tok = NN t ∧ sort = NN s := by
  rcases h with ⟨-, rfl, rfl⟩ | ⟨k, -, rfl, -, rfl, -⟩ | ⟨V, -, rfl, -, -, rfl, -⟩ | ⟨rfl, -, rfl, -⟩ | ⟨W, w1, rfl, rfl, rfl, rfl, w2⟩ | ⟨rfl, rfl, h⟩ | ⟨rfl, rfl, -⟩
  · exact Or.inr ⟨0, 4, by omega, by omega, by omega, by omega, rfl, rfl⟩
  · exact Or.inr ⟨1, 0, by omega, by omega, by omega, by omega, rfl, rfl⟩
  · exact Or.inr ⟨1, 1, by omega, by omega, by omega, by omega, rfl, rfl⟩
  · exact Or.inr ⟨1, 5, by omega, by omega, by omega, by omega, rfl, rfl⟩
  · exact Or.inr ⟨2, 2, by omega, by omega, by omega, by omega, rfl, rfl⟩
  · exact Or.inl ⟨rfl, rfl, h⟩
  · exact Or.inr ⟨4, 5, by omega, by omega, by omega, by omega, rfl, rfl⟩
/-- the end of a LINE, class and model -/
theorem tail {T : Nat → Nat} {n : Nat} {rd : T_Rd} {m : T_M} (pr : T_Pg) (y : Int32) (h : (∃ pl q, AH T n rd m pl q) ∨ BD T n rd m) :
    (∃ rd1 m1 pl q pos tok val place, (∃ pl0 q0, AH T n rd m pl0 q0 ∧ pl0 < pl) ∧ rd1 = tR rd pos tok val place ∧ KL pr y rd = f_Rd_takeLine rd1 (pL pr (Pg_lines pr + NN 1)) y ∧ ML m = some (lM m1) ∧ FM1 m m1 ∧ M_cd m1 = M_cd m ∧ M_hasData (M_rd m1) = M_hasData (M_rd m) ∧ Rd_fault rd1 = NN 0 ∧ TC rd1 n T ∧ (∀ rd', TC rd' n T → Rd_position rd' = Rd_position rd1 → Rd_fault rd' = NN 0 → AH T n rd' (lM m1) pl q)) ∨
    (∃ rd1 m1, KL pr y rd = some (rd1, pr) ∧ ML m = some m1 ∧ BD T n rd1 m1 ∧ FR1 rd rd1 ∧ M_tp m1 = M_tp m ∧ M_lf m1 = M_lf m ∧ M_rn m1 = M_rn m ∧ M_ex m1 = M_ex m ∧ M_im m1 = M_im m ∧ M_al m1 = M_al m ∧ M_thrown m1 = M_thrown m ∧ M_cd m1 = M_cd m) := by
  rcases h with ⟨pl0, q0, h⟩ | h
  · have hh := h
    obtain ⟨pos, tok, val, place, e1, hA⟩ := h
    have hA' := hA
    obtain ⟨h1, h2, h3, h4, h5, h6, h7, h8, h9, h10⟩ := hA'
    have hf : Rd_fault rd = NN 0 := h1
    rcases TK_semi h10 with ⟨t1, t2, t3⟩ | ⟨t, s, t1, t2, t3, t4, t5, t6⟩
    · obtain ⟨q', pl', sort', value', g1, g2, g3⟩ := AT_goOn hA
      refine Or.inl ⟨tR rd pos tok val place, tM m (NN q') (NN pl') sort' value', pl', q', pos, tok, val, place, ⟨pl0, q0, hh, by omega⟩, rfl, KL_semi hf e1 h1 t1, ML_semi h2 t2 g1, ⟨rfl, rfl, rfl, rfl, rfl, rfl, rfl, rfl, rfl⟩, rfl, rfl, h1, TP_C h3, fun rd' a b c => ?_⟩
      exact g2 rd' a (b.trans h6) c
    · exact Or.inr ⟨_, _, KL_no hf e1 t5 ⟨t1, t2⟩, ML_no h2 t6 ⟨t3, t4⟩, AT_bad hA (by omega), ⟨rfl, rfl, rfl, rfl, rfl, rfl⟩, rfl, rfl, rfl, rfl, rfl, rfl, rfl, rfl⟩
  · obtain ⟨f, hf, h1, h2⟩ := BD_fault h
    exact Or.inr ⟨rd, lM m, KL_bad h1 hf, ML_bad h2 hf, h, FR1_refl rd, rfl, rfl, rfl, rfl, rfl, rfl, rfl, rfl⟩
