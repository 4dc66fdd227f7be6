/-! the model's point passes; what is wrong there; who may step -/
theorem lvRow_ne {s : Nat → Int32} {a : Nat} {w : Int32} {j : Nat} (h : j < 146 ∨ (218 < j ∧ j < 224) ∨ (225 < j ∧ j < 232) ∨ (232 < j ∧ j < 265)) (ho : s 178 ≠ NN 40 → (s 178).toNatClampNeg < 40) : lvRow s a w j = s j := by
  simp only [lvRow]
  split
  · rw [upd_ne (by omega), upd_ne (by omega), jAll_ne (by omega) (by omega)]
  · split
    · rw [upd_ne (by omega), upd_ne (by omega), upd_ne (by omega), upd_ne (by omega)]
      simp only [sh1]; rw [if_neg (by omega), jAll_ne (by omega) (by omega)]
    · next h1 h2 =>
      have := ho h2
      rw [upd_ne (by omega), upd_ne (by omega), upd_ne (by omega), jAll_ne (by omega) (by omega)]
theorem jRow_265 (s : Nat → Int32) (m a : Nat) (w : Int32) : jRow s m a w 265 = NN (m + 1) := by
  simp only [jRow]
  split
  · simp (disch := omega) only [upd_at, upd_ne, if_pos, if_neg]
  · simp (disch := omega) only [upd_at, upd_ne, if_pos, if_neg]
theorem jAll_265 (s : Nat → Int32) (m a : Nat) (w : Int32) (hm : m ≤ 16) : ∃ m', m' ≤ 16 ∧ jAll s m a w 265 = NN m' := by
  simp only [jAll]
  split
  · exact ⟨16, by omega, jRow_265 _ _ _ _⟩
  · exact ⟨m + 1, by omega, jRow_265 _ _ _ _⟩
def lvOk (s : Nat → Int32) : Prop := ∃ m o, m ≤ 16 ∧ o ≤ 40 ∧ s 265 = NN m ∧ s 178 = NN o
theorem lvOk_lt {s : Nat → Int32} (h : lvOk s) : s 178 ≠ NN 40 → (s 178).toNatClampNeg < 40 := by
  obtain ⟨m, o, h1, h2, h3, h4⟩ := h
  intro h5
  rw [h4, n_tn (by omega)]
  rw [h4] at h5
  have : o ≠ 40 := fun e => h5 (by rw [e])
  omega
theorem lvRow_ok {s : Nat → Int32} {a : Nat} {w : Int32} (h : lvOk s) : lvOk (lvRow s a w) := by
  obtain ⟨m, o, h1, h2, h3, h4⟩ := h
  obtain ⟨m', h5, h6⟩ := jAll_265 s m a w h1
  have e : (s 265).toNatClampNeg = m := by rw [h3, n_tn (by omega)]
  simp only [lvRow, e]
  split
  · refine ⟨m', o, h5, h2, ?_, ?_⟩
    · simp (disch := omega) only [upd_at, upd_ne, if_pos, if_neg, h6]
    · rw [upd_ne (by omega), upd_ne (by omega), jAll_ne (by omega) (by omega), h4]
  · split
    · refine ⟨m', 40, h5, by omega, ?_, ?_⟩
      · simp (disch := omega) only [upd_at, upd_ne, if_pos, if_neg]
        simp only [sh1]; rw [if_neg (by omega), h6]
      · simp (disch := omega) only [upd_at, upd_ne, if_pos, if_neg]
    · next h7 h8 =>
      have ho : (s 178).toNatClampNeg = o := by rw [h4, n_tn (by omega)]
      have h9 : o ≠ 40 := fun e => h8 (by rw [h4, e])
      refine ⟨m', o + 1, h5, by omega, ?_, ?_⟩
      · simp (disch := omega) only [upd_at, upd_ne, if_pos, if_neg, ho, h6]
      · simp (disch := omega) only [upd_at, upd_ne, if_pos, if_neg, h4, n_add]
/-- the row behind the first n that leave -/
def mLv (s : Nat → Int32) (A : Nat → Nat) : Nat → (Nat → Int32)
  | 0 => s
  | n + 1 => lvRow (mLv s A n) (A n) (s (122 + n))
theorem mLv_ok {s : Nat → Int32} {A : Nat → Nat} (h : lvOk s) : ∀ n, lvOk (mLv s A n)
  | 0 => h
  | n + 1 => lvRow_ok (mLv_ok h n)
theorem mLv_ne {s : Nat → Int32} {A : Nat → Nat} (h0 : lvOk s) {j : Nat} (h : j < 146 ∨ (218 < j ∧ j < 224) ∨ (225 < j ∧ j < 232) ∨ (232 < j ∧ j < 265)) : ∀ n, mLv s A n j = s j
  | 0 => rfl
  | n + 1 => (lvRow_ne h (lvOk_lt (mLv_ok h0 n))).trans (mLv_ne h0 h n)
def keep2 (s : Nat → Int32) : Nat → Int32 := fun j => if 28 ≤ j ∧ j < 30 then s (j - 28) else if 2 ≤ j ∧ j < 4 then NN 0 else s j
def keepRow (s : Nat → Int32) : Nat → Int32 := cpR (cpR (keep2 s) 30 4 16) 46 20 8
def paRow (s : Nat → Int32) (A : Nat → Nat) (nh : Nat) : Nat → Int32 :=
  emp (keepRow (upd (upd (mLv (upd s 220 (s 220 + NN 1)) A nh) 231 (s 231 + s 2)) 222 (NN 0)))
set_option maxHeartbeats 2000000 in
theorem M_passes (v : T_M) (nh : Nat) (A : Nat → Nat) (hnh : nh ≤ 8) (hH : M_s (M_rn v) 112 = NN nh) (hA : ∀ k, k < nh → M_s (M_rn v) (114 + k) = NN (A k) ∧ A k < 64) (hok : lvOk (M_s (M_rn v)))
    {h0 h1 : Int32} (e0 : f_M_isHalted (mS v (paRow (M_s (M_rn v)) A nh)) 0 = some h0) (e1 : f_M_isHalted (mS v (paRow (M_s (M_rn v)) A nh)) 1 = some h1) :
    f_M_passes v = some (mS v (if h0 = NN 0 then paRow (M_s (M_rn v)) A nh else if h1 = NN 0 then paRow (M_s (M_rn v)) A nh else upd (paRow (M_s (M_rn v)) A nh) 226 (NN 1))) := by
  obtain ⟨r0, hr0⟩ : ∃ r0, r0 = upd (M_s (M_rn v)) 220 (M_s (M_rn v) 220 + NN 1) := ⟨_, rfl⟩
  have hk0 : lvOk r0 := by
    obtain ⟨m, o, h1, h2, h3, h4⟩ := hok
    refine ⟨m, o, h1, h2, ?_, ?_⟩
    · rw [hr0]; simp (disch := omega) only [upd_at, upd_ne, if_pos, if_neg, h3]
    · rw [hr0]; simp (disch := omega) only [upd_at, upd_ne, if_pos, if_neg, h4]
  have k1 : ∀ k : T_M → Option T_M, f_M_passes_L14 k LF 0 (mS v r0) = k (mS v (mLv r0 A nh)) := by
    intro k
    obtain ⟨s', e, h⟩ := loop_from (f_M_passes_L14 k) k (fun x f => f = mS v (mLv r0 A x)) 0 nh (n := LF) (s := mS v r0)
      (by
        intro n x f hx0 hx hI
        subst hI
        have q0 : ∀ j, j < 146 → mLv r0 A x j = M_s (M_rn v) j := fun j hj => by
          rw [mLv_ne hk0 (by omega) x, hr0, upd_ne (by omega)]
        have q1 := q0 112 (by omega)
        have q2 := q0 (114 + x) (by omega)
        have q3 := q0 (122 + x) (by omega)
        obtain ⟨m, o, g1, g2, g3, g4⟩ := mLv_ok (A := A) hk0 x
        obtain ⟨a1, a2⟩ := hA x hx
        have e1 := M_leaves (mS v (mLv r0 A x)) m o (A x) (M_s (M_rn v) (122 + x)) g1 a2 g3 g2 g4
        refine ⟨mS v (mLv r0 A (x + 1)), ?_, rfl⟩
        simp only [f_M_passes_L14]
        repeat first | (with_reducible refine s_nmj1 ?_) | (with_reducible refine s_nmj2 ?_) | ((with_reducible refine s_nm ?_); intro y_ hy_; (try simp (disch := omega) only [n_lit, n_add, n_mul, n_sub, n_tn, n_ltT, n_ltF, n_leT, n_leF, n_eqT, n_eqF, n_div, n_ixT, n_ixF, n_not, n_md, n_dec, n_and1, n_and3, n_and7, n_and15, n_and31, n_and63, Nat.mod_eq_of_lt, Nat.zero_add, Nat.add_zero, Nat.zero_mul, Nat.sub_zero, not_false_eq_true, not_true_eq_false, upd_at, upd_ne, mS, M_tp_mk, M_rd_mk, M_lf_mk, M_cd_mk, M_rn_mk, M_ex_mk, M_im_mk, M_al_mk, M_thrown_mk, M_s_mk, M_spanNow_mk, M_sizeNow_mk, M_placeThen_mk, q1, q2, q3, hH, a1] at hy_); subst hy_) | ((with_reducible refine s_pos ?_ ?_); · simp (disch := omega) only [n_lit, n_add, n_mul, n_sub, n_tn, n_ltT, n_ltF, n_leT, n_leF, n_eqT, n_eqF, n_div, n_ixT, n_ixF, n_not, n_md, n_dec, n_and1, n_and3, n_and7, n_and15, n_and31, n_and63, Nat.mod_eq_of_lt, Nat.zero_add, Nat.add_zero, Nat.zero_mul, Nat.sub_zero, not_false_eq_true, not_true_eq_false, upd_at, upd_ne, mS, M_tp_mk, M_rd_mk, M_lf_mk, M_cd_mk, M_rn_mk, M_ex_mk, M_im_mk, M_al_mk, M_thrown_mk, M_s_mk, M_spanNow_mk, M_sizeNow_mk, M_placeThen_mk, q1, q2, q3, hH, a1]) | ((with_reducible refine s_neg ?_ ?_); · simp (disch := omega) only [n_lit, n_add, n_mul, n_sub, n_tn, n_ltT, n_ltF, n_leT, n_leF, n_eqT, n_eqF, n_div, n_ixT, n_ixF, n_not, n_md, n_dec, n_and1, n_and3, n_and7, n_and15, n_and31, n_and63, Nat.mod_eq_of_lt, Nat.zero_add, Nat.add_zero, Nat.zero_mul, Nat.sub_zero, not_false_eq_true, not_true_eq_false, upd_at, upd_ne, mS, M_tp_mk, M_rd_mk, M_lf_mk, M_cd_mk, M_rn_mk, M_ex_mk, M_im_mk, M_al_mk, M_thrown_mk, M_s_mk, M_spanNow_mk, M_sizeNow_mk, M_placeThen_mk, q1, q2, q3, hH, a1])  | ((with_reducible refine s_bd (Eq.trans ?_ e1) ?_); · simp (disch := omega) only [n_lit, n_add, n_mul, n_sub, n_tn, n_ltT, n_ltF, n_leT, n_leF, n_eqT, n_eqF, n_div, n_ixT, n_ixF, n_not, n_md, n_dec, n_and1, n_and3, n_and7, n_and15, n_and31, n_and63, Nat.mod_eq_of_lt, Nat.zero_add, Nat.add_zero, Nat.zero_mul, Nat.sub_zero, not_false_eq_true, not_true_eq_false, upd_at, upd_ne, mS, M_tp_mk, M_rd_mk, M_lf_mk, M_cd_mk, M_rn_mk, M_ex_mk, M_im_mk, M_al_mk, M_thrown_mk, M_s_mk, M_spanNow_mk, M_sizeNow_mk, M_placeThen_mk, q2, q3, a1])
        have q4 : r0 (122 + x) = M_s (M_rn v) (122 + x) := by rw [hr0, upd_ne (by omega)]
        simp only [mLv, q4]
        rfl)
      (by
        intro n s hs
        subst hs
        have q1 : mLv r0 A nh 112 = M_s (M_rn v) 112 := by rw [mLv_ne hk0 (by omega) nh, hr0, upd_ne (by omega)]
        simp only [f_M_passes_L14]
        repeat first | (with_reducible refine s_nmj1 ?_) | (with_reducible refine s_nmj2 ?_) | ((with_reducible refine s_nm ?_); intro y_ hy_; (try simp (disch := omega) only [n_lit, n_add, n_mul, n_sub, n_tn, n_ltT, n_ltF, n_leT, n_leF, n_eqT, n_eqF, n_div, n_ixT, n_ixF, n_not, n_md, n_dec, n_and1, n_and3, n_and7, n_and15, n_and31, n_and63, Nat.mod_eq_of_lt, Nat.zero_add, Nat.add_zero, Nat.zero_mul, Nat.sub_zero, not_false_eq_true, not_true_eq_false, upd_at, upd_ne, mS, M_tp_mk, M_rd_mk, M_lf_mk, M_cd_mk, M_rn_mk, M_ex_mk, M_im_mk, M_al_mk, M_thrown_mk, M_s_mk, M_spanNow_mk, M_sizeNow_mk, M_placeThen_mk, q1, hH] at hy_); subst hy_) | ((with_reducible refine s_pos ?_ ?_); · simp (disch := omega) only [n_lit, n_add, n_mul, n_sub, n_tn, n_ltT, n_ltF, n_leT, n_leF, n_eqT, n_eqF, n_div, n_ixT, n_ixF, n_not, n_md, n_dec, n_and1, n_and3, n_and7, n_and15, n_and31, n_and63, Nat.mod_eq_of_lt, Nat.zero_add, Nat.add_zero, Nat.zero_mul, Nat.sub_zero, not_false_eq_true, not_true_eq_false, upd_at, upd_ne, mS, M_tp_mk, M_rd_mk, M_lf_mk, M_cd_mk, M_rn_mk, M_ex_mk, M_im_mk, M_al_mk, M_thrown_mk, M_s_mk, M_spanNow_mk, M_sizeNow_mk, M_placeThen_mk, q1, hH]) | ((with_reducible refine s_neg ?_ ?_); · simp (disch := omega) only [n_lit, n_add, n_mul, n_sub, n_tn, n_ltT, n_ltF, n_leT, n_leF, n_eqT, n_eqF, n_div, n_ixT, n_ixF, n_not, n_md, n_dec, n_and1, n_and3, n_and7, n_and15, n_and31, n_and63, Nat.mod_eq_of_lt, Nat.zero_add, Nat.add_zero, Nat.zero_mul, Nat.sub_zero, not_false_eq_true, not_true_eq_false, upd_at, upd_ne, mS, M_tp_mk, M_rd_mk, M_lf_mk, M_cd_mk, M_rn_mk, M_ex_mk, M_im_mk, M_al_mk, M_thrown_mk, M_s_mk, M_spanNow_mk, M_sizeNow_mk, M_placeThen_mk, q1, hH]) 
        rfl) (by omega) (lf_big (by omega)) rfl
    subst h
    exact e
  have k2 : ∀ (k : (Nat → Int32) → Option T_M) (f : Nat → Int32), f_M_passes_L81 k LF 0 f = k (keep2 f) := by
    intro k f
    obtain ⟨s', e, h⟩ := loop_from (f_M_passes_L81 k) k (fun x g => ∀ j, g j = if 28 ≤ j ∧ j < 28 + x then f (j - 28) else if 2 ≤ j ∧ j < 2 + x then NN 0 else f j) 0 2 (n := LF) (s := f)
      (by
        intro n x g hx0 hx hI
        refine ⟨?w2, ?h3, ?h4⟩
        case h3 =>
          simp only [f_M_passes_L81]
          repeat first | (with_reducible refine s_nmj1 ?_) | (with_reducible refine s_nmj2 ?_) | ((with_reducible refine s_nm ?_); intro y_ hy_; (try simp (disch := omega) only [n_lit, n_add, n_mul, n_sub, n_tn, n_ltT, n_ltF, n_leT, n_leF, n_eqT, n_eqF, n_div, n_ixT, n_ixF, n_not, n_md, n_dec, n_and1, n_and3, n_and7, n_and15, n_and31, n_and63, Nat.mod_eq_of_lt, Nat.zero_add, Nat.add_zero, Nat.zero_mul, Nat.sub_zero, not_false_eq_true, not_true_eq_false, upd_at, upd_ne] at hy_); subst hy_) | ((with_reducible refine s_pos ?_ ?_); · simp (disch := omega) only [n_lit, n_add, n_mul, n_sub, n_tn, n_ltT, n_ltF, n_leT, n_leF, n_eqT, n_eqF, n_div, n_ixT, n_ixF, n_not, n_md, n_dec, n_and1, n_and3, n_and7, n_and15, n_and31, n_and63, Nat.mod_eq_of_lt, Nat.zero_add, Nat.add_zero, Nat.zero_mul, Nat.sub_zero, not_false_eq_true, not_true_eq_false, upd_at, upd_ne]) | ((with_reducible refine s_neg ?_ ?_); · simp (disch := omega) only [n_lit, n_add, n_mul, n_sub, n_tn, n_ltT, n_ltF, n_leT, n_leF, n_eqT, n_eqF, n_div, n_ixT, n_ixF, n_not, n_md, n_dec, n_and1, n_and3, n_and7, n_and15, n_and31, n_and63, Nat.mod_eq_of_lt, Nat.zero_add, Nat.add_zero, Nat.zero_mul, Nat.sub_zero, not_false_eq_true, not_true_eq_false, upd_at, upd_ne]) 
          rfl
        case h4 =>
          intro j
          by_cases hj : j = 2 + x
          · subst hj
            simp (disch := omega) only [upd_at, upd_ne, if_pos, if_neg, hI]
          · by_cases hj2 : j = 28 + x
            · subst hj2
              simp (disch := omega) only [upd_at, upd_ne, if_pos, if_neg, hI]
              congr 1; omega
            · rw [upd_ne hj, upd_ne hj2, hI j]
              have : (2 ≤ j ∧ j < 2 + (x + 1)) ↔ (2 ≤ j ∧ j < 2 + x) := by omega
              have h2 : (28 ≤ j ∧ j < 28 + (x + 1)) ↔ (28 ≤ j ∧ j < 28 + x) := by omega
              simp only [this, h2])
      (by
        intro n s _
        simp only [f_M_passes_L81]
        repeat first | (with_reducible refine s_nmj1 ?_) | (with_reducible refine s_nmj2 ?_) | ((with_reducible refine s_nm ?_); intro y_ hy_; (try simp (disch := omega) only [n_lit, n_add, n_mul, n_sub, n_tn, n_ltT, n_ltF, n_leT, n_leF, n_eqT, n_eqF, n_div, n_ixT, n_ixF, n_not, n_md, n_dec, n_and1, n_and3, n_and7, n_and15, n_and31, n_and63, Nat.mod_eq_of_lt, Nat.zero_add, Nat.add_zero, Nat.zero_mul, Nat.sub_zero, not_false_eq_true, not_true_eq_false, upd_at, upd_ne] at hy_); subst hy_) | ((with_reducible refine s_pos ?_ ?_); · simp (disch := omega) only [n_lit, n_add, n_mul, n_sub, n_tn, n_ltT, n_ltF, n_leT, n_leF, n_eqT, n_eqF, n_div, n_ixT, n_ixF, n_not, n_md, n_dec, n_and1, n_and3, n_and7, n_and15, n_and31, n_and63, Nat.mod_eq_of_lt, Nat.zero_add, Nat.add_zero, Nat.zero_mul, Nat.sub_zero, not_false_eq_true, not_true_eq_false, upd_at, upd_ne]) | ((with_reducible refine s_neg ?_ ?_); · simp (disch := omega) only [n_lit, n_add, n_mul, n_sub, n_tn, n_ltT, n_ltF, n_leT, n_leF, n_eqT, n_eqF, n_div, n_ixT, n_ixF, n_not, n_md, n_dec, n_and1, n_and3, n_and7, n_and15, n_and31, n_and63, Nat.mod_eq_of_lt, Nat.zero_add, Nat.add_zero, Nat.zero_mul, Nat.sub_zero, not_false_eq_true, not_true_eq_false, upd_at, upd_ne]) 
        rfl) (by omega) (lf_big (by decide)) (fun j => by rw [if_neg (by omega), if_neg (by omega)])
    have hs : s' = keep2 f := funext fun j => (h j).trans rfl
    rw [← hs]
    exact e
  have k3 : ∀ (k : (Nat → Int32) → Option T_M) (f : Nat → Int32), f_M_passes_L120 k LF 0 f = k (cpR f 30 4 16) := by
    intro k f
    refine loop_cp (f_M_passes_L120 k) k 30 4 16 f (by decide) (by decide) ?_ ?_
    · intro n x g hx
      simp only [f_M_passes_L120]
      repeat first | (with_reducible refine s_nmj1 ?_) | (with_reducible refine s_nmj2 ?_) | ((with_reducible refine s_nm ?_); intro y_ hy_; (try simp (disch := omega) only [n_lit, n_add, n_mul, n_sub, n_tn, n_ltT, n_ltF, n_leT, n_leF, n_eqT, n_eqF, n_div, n_ixT, n_ixF, n_not, n_md, n_dec, n_and1, n_and3, n_and7, n_and15, n_and31, n_and63, Nat.mod_eq_of_lt, Nat.zero_add, Nat.add_zero, Nat.zero_mul, Nat.sub_zero, not_false_eq_true, not_true_eq_false, upd_at, upd_ne] at hy_); subst hy_) | ((with_reducible refine s_pos ?_ ?_); · simp (disch := omega) only [n_lit, n_add, n_mul, n_sub, n_tn, n_ltT, n_ltF, n_leT, n_leF, n_eqT, n_eqF, n_div, n_ixT, n_ixF, n_not, n_md, n_dec, n_and1, n_and3, n_and7, n_and15, n_and31, n_and63, Nat.mod_eq_of_lt, Nat.zero_add, Nat.add_zero, Nat.zero_mul, Nat.sub_zero, not_false_eq_true, not_true_eq_false, upd_at, upd_ne]) | ((with_reducible refine s_neg ?_ ?_); · simp (disch := omega) only [n_lit, n_add, n_mul, n_sub, n_tn, n_ltT, n_ltF, n_leT, n_leF, n_eqT, n_eqF, n_div, n_ixT, n_ixF, n_not, n_md, n_dec, n_and1, n_and3, n_and7, n_and15, n_and31, n_and63, Nat.mod_eq_of_lt, Nat.zero_add, Nat.add_zero, Nat.zero_mul, Nat.sub_zero, not_false_eq_true, not_true_eq_false, upd_at, upd_ne]) 
      rfl
    · intro n g
      simp only [f_M_passes_L120]
      repeat first | (with_reducible refine s_nmj1 ?_) | (with_reducible refine s_nmj2 ?_) | ((with_reducible refine s_nm ?_); intro y_ hy_; (try simp (disch := omega) only [n_lit, n_add, n_mul, n_sub, n_tn, n_ltT, n_ltF, n_leT, n_leF, n_eqT, n_eqF, n_div, n_ixT, n_ixF, n_not, n_md, n_dec, n_and1, n_and3, n_and7, n_and15, n_and31, n_and63, Nat.mod_eq_of_lt, Nat.zero_add, Nat.add_zero, Nat.zero_mul, Nat.sub_zero, not_false_eq_true, not_true_eq_false, upd_at, upd_ne] at hy_); subst hy_) | ((with_reducible refine s_pos ?_ ?_); · simp (disch := omega) only [n_lit, n_add, n_mul, n_sub, n_tn, n_ltT, n_ltF, n_leT, n_leF, n_eqT, n_eqF, n_div, n_ixT, n_ixF, n_not, n_md, n_dec, n_and1, n_and3, n_and7, n_and15, n_and31, n_and63, Nat.mod_eq_of_lt, Nat.zero_add, Nat.add_zero, Nat.zero_mul, Nat.sub_zero, not_false_eq_true, not_true_eq_false, upd_at, upd_ne]) | ((with_reducible refine s_neg ?_ ?_); · simp (disch := omega) only [n_lit, n_add, n_mul, n_sub, n_tn, n_ltT, n_ltF, n_leT, n_leF, n_eqT, n_eqF, n_div, n_ixT, n_ixF, n_not, n_md, n_dec, n_and1, n_and3, n_and7, n_and15, n_and31, n_and63, Nat.mod_eq_of_lt, Nat.zero_add, Nat.add_zero, Nat.zero_mul, Nat.sub_zero, not_false_eq_true, not_true_eq_false, upd_at, upd_ne]) 
      rfl
  have k4 : ∀ (k : (Nat → Int32) → Option T_M) (f : Nat → Int32), f_M_passes_L151 k LF 0 f = k (cpR f 46 20 8) := by
    intro k f
    refine loop_cp (f_M_passes_L151 k) k 46 20 8 f (by decide) (by decide) ?_ ?_
    · intro n x g hx
      simp only [f_M_passes_L151]
      repeat first | (with_reducible refine s_nmj1 ?_) | (with_reducible refine s_nmj2 ?_) | ((with_reducible refine s_nm ?_); intro y_ hy_; (try simp (disch := omega) only [n_lit, n_add, n_mul, n_sub, n_tn, n_ltT, n_ltF, n_leT, n_leF, n_eqT, n_eqF, n_div, n_ixT, n_ixF, n_not, n_md, n_dec, n_and1, n_and3, n_and7, n_and15, n_and31, n_and63, Nat.mod_eq_of_lt, Nat.zero_add, Nat.add_zero, Nat.zero_mul, Nat.sub_zero, not_false_eq_true, not_true_eq_false, upd_at, upd_ne] at hy_); subst hy_) | ((with_reducible refine s_pos ?_ ?_); · simp (disch := omega) only [n_lit, n_add, n_mul, n_sub, n_tn, n_ltT, n_ltF, n_leT, n_leF, n_eqT, n_eqF, n_div, n_ixT, n_ixF, n_not, n_md, n_dec, n_and1, n_and3, n_and7, n_and15, n_and31, n_and63, Nat.mod_eq_of_lt, Nat.zero_add, Nat.add_zero, Nat.zero_mul, Nat.sub_zero, not_false_eq_true, not_true_eq_false, upd_at, upd_ne]) | ((with_reducible refine s_neg ?_ ?_); · simp (disch := omega) only [n_lit, n_add, n_mul, n_sub, n_tn, n_ltT, n_ltF, n_leT, n_leF, n_eqT, n_eqF, n_div, n_ixT, n_ixF, n_not, n_md, n_dec, n_and1, n_and3, n_and7, n_and15, n_and31, n_and63, Nat.mod_eq_of_lt, Nat.zero_add, Nat.add_zero, Nat.zero_mul, Nat.sub_zero, not_false_eq_true, not_true_eq_false, upd_at, upd_ne]) 
      rfl
    · intro n g
      simp only [f_M_passes_L151]
      repeat first | (with_reducible refine s_nmj1 ?_) | (with_reducible refine s_nmj2 ?_) | ((with_reducible refine s_nm ?_); intro y_ hy_; (try simp (disch := omega) only [n_lit, n_add, n_mul, n_sub, n_tn, n_ltT, n_ltF, n_leT, n_leF, n_eqT, n_eqF, n_div, n_ixT, n_ixF, n_not, n_md, n_dec, n_and1, n_and3, n_and7, n_and15, n_and31, n_and63, Nat.mod_eq_of_lt, Nat.zero_add, Nat.add_zero, Nat.zero_mul, Nat.sub_zero, not_false_eq_true, not_true_eq_false, upd_at, upd_ne] at hy_); subst hy_) | ((with_reducible refine s_pos ?_ ?_); · simp (disch := omega) only [n_lit, n_add, n_mul, n_sub, n_tn, n_ltT, n_ltF, n_leT, n_leF, n_eqT, n_eqF, n_div, n_ixT, n_ixF, n_not, n_md, n_dec, n_and1, n_and3, n_and7, n_and15, n_and31, n_and63, Nat.mod_eq_of_lt, Nat.zero_add, Nat.add_zero, Nat.zero_mul, Nat.sub_zero, not_false_eq_true, not_true_eq_false, upd_at, upd_ne]) | ((with_reducible refine s_neg ?_ ?_); · simp (disch := omega) only [n_lit, n_add, n_mul, n_sub, n_tn, n_ltT, n_ltF, n_leT, n_leF, n_eqT, n_eqF, n_div, n_ixT, n_ixF, n_not, n_md, n_dec, n_and1, n_and3, n_and7, n_and15, n_and31, n_and63, Nat.mod_eq_of_lt, Nat.zero_add, Nat.add_zero, Nat.zero_mul, Nat.sub_zero, not_false_eq_true, not_true_eq_false, upd_at, upd_ne]) 
      rfl
  have q231 : mLv r0 A nh 231 = M_s (M_rn v) 231 := by rw [mLv_ne hk0 (by omega) nh, hr0, upd_ne (by omega)]
  have q2 : mLv r0 A nh 2 = M_s (M_rn v) 2 := by rw [mLv_ne hk0 (by omega) nh, hr0, upd_ne (by omega)]
  have hR : emp (keepRow (upd (upd (mLv r0 A nh) 231 (M_s (M_rn v) 231 + M_s (M_rn v) 2)) 222 (NN 0))) = paRow (M_s (M_rn v)) A nh := by rw [hr0]; rfl
  unfold f_M_passes
  repeat first | (with_reducible refine s_nmj1 ?_) | (with_reducible refine s_nmj2 ?_) | ((with_reducible refine s_nm ?_); intro y_ hy_; (try simp (disch := omega) only [n_lit, n_add, n_mul, n_sub, n_tn, n_ltT, n_ltF, n_leT, n_leF, n_eqT, n_eqF, n_div, n_ixT, n_ixF, n_not, n_md, n_dec, n_and1, n_and3, n_and7, n_and15, n_and31, n_and63, Nat.mod_eq_of_lt, Nat.zero_add, Nat.add_zero, Nat.zero_mul, Nat.sub_zero, not_false_eq_true, not_true_eq_false, upd_at, upd_ne] at hy_); subst hy_) | ((with_reducible refine s_pos ?_ ?_); · simp (disch := omega) only [n_lit, n_add, n_mul, n_sub, n_tn, n_ltT, n_ltF, n_leT, n_leF, n_eqT, n_eqF, n_div, n_ixT, n_ixF, n_not, n_md, n_dec, n_and1, n_and3, n_and7, n_and15, n_and31, n_and63, Nat.mod_eq_of_lt, Nat.zero_add, Nat.add_zero, Nat.zero_mul, Nat.sub_zero, not_false_eq_true, not_true_eq_false, upd_at, upd_ne]) | ((with_reducible refine s_neg ?_ ?_); · simp (disch := omega) only [n_lit, n_add, n_mul, n_sub, n_tn, n_ltT, n_ltF, n_leT, n_leF, n_eqT, n_eqF, n_div, n_ixT, n_ixF, n_not, n_md, n_dec, n_and1, n_and3, n_and7, n_and15, n_and31, n_and63, Nat.mod_eq_of_lt, Nat.zero_add, Nat.add_zero, Nat.zero_mul, Nat.sub_zero, not_false_eq_true, not_true_eq_false, upd_at, upd_ne]) 
  have k1' : ∀ k : T_M → Option T_M, f_M_passes_L14 k LF 0 (M_tp v, M_rd v, M_lf v, M_cd v, (upd (M_s (M_rn v)) 220 (M_s (M_rn v) 220 + NN 1), M_spanNow (M_rn v), M_sizeNow (M_rn v), M_placeThen (M_rn v)), M_ex v, M_im v, M_al v, M_thrown v) = k (mS v (mLv r0 A nh)) := by
    intro k; rw [← k1 k, hr0]; rfl
  first | rw [k1'] | rw [n_lit 1, k1']
  repeat first | (with_reducible refine s_nmj1 ?_) | (with_reducible refine s_nmj2 ?_) | ((with_reducible refine s_nm ?_); intro y_ hy_; (try simp (disch := omega) only [n_lit, n_add, n_mul, n_sub, n_tn, n_ltT, n_ltF, n_leT, n_leF, n_eqT, n_eqF, n_div, n_ixT, n_ixF, n_not, n_md, n_dec, n_and1, n_and3, n_and7, n_and15, n_and31, n_and63, Nat.mod_eq_of_lt, Nat.zero_add, Nat.add_zero, Nat.zero_mul, Nat.sub_zero, not_false_eq_true, not_true_eq_false, upd_at, upd_ne, mS, M_tp_mk, M_rd_mk, M_lf_mk, M_cd_mk, M_rn_mk, M_ex_mk, M_im_mk, M_al_mk, M_thrown_mk, M_s_mk, M_spanNow_mk, M_sizeNow_mk, M_placeThen_mk, q231, q2] at hy_); subst hy_) | ((with_reducible refine s_pos ?_ ?_); · simp (disch := omega) only [n_lit, n_add, n_mul, n_sub, n_tn, n_ltT, n_ltF, n_leT, n_leF, n_eqT, n_eqF, n_div, n_ixT, n_ixF, n_not, n_md, n_dec, n_and1, n_and3, n_and7, n_and15, n_and31, n_and63, Nat.mod_eq_of_lt, Nat.zero_add, Nat.add_zero, Nat.zero_mul, Nat.sub_zero, not_false_eq_true, not_true_eq_false, upd_at, upd_ne, mS, M_tp_mk, M_rd_mk, M_lf_mk, M_cd_mk, M_rn_mk, M_ex_mk, M_im_mk, M_al_mk, M_thrown_mk, M_s_mk, M_spanNow_mk, M_sizeNow_mk, M_placeThen_mk, q231, q2]) | ((with_reducible refine s_neg ?_ ?_); · simp (disch := omega) only [n_lit, n_add, n_mul, n_sub, n_tn, n_ltT, n_ltF, n_leT, n_leF, n_eqT, n_eqF, n_div, n_ixT, n_ixF, n_not, n_md, n_dec, n_and1, n_and3, n_and7, n_and15, n_and31, n_and63, Nat.mod_eq_of_lt, Nat.zero_add, Nat.add_zero, Nat.zero_mul, Nat.sub_zero, not_false_eq_true, not_true_eq_false, upd_at, upd_ne, mS, M_tp_mk, M_rd_mk, M_lf_mk, M_cd_mk, M_rn_mk, M_ex_mk, M_im_mk, M_al_mk, M_thrown_mk, M_s_mk, M_spanNow_mk, M_sizeNow_mk, M_placeThen_mk, q231, q2]) 
  simp only [mS, M_tp_mk, M_rd_mk, M_lf_mk, M_cd_mk, M_rn_mk, M_ex_mk, M_im_mk, M_al_mk, M_thrown_mk, M_s_mk, M_spanNow_mk, M_sizeNow_mk, M_placeThen_mk]
  rw [k2, k3, k4]
  have hE := M_empties (mS v (keepRow (upd (upd (mLv r0 A nh) 231 (M_s (M_rn v) 231 + M_s (M_rn v) 2)) 222 (NN 0))))
  have hE2 : f_M_empties (M_tp v, M_rd v, M_lf v, M_cd v, (cpR (cpR (keep2 (upd (upd (mLv r0 A nh) 231 (M_s (M_rn v) 231 + M_s (M_rn v) 2)) 222 (NN 0))) 30 4 16) 46 20 8, M_spanNow (M_rn v), M_sizeNow (M_rn v), M_placeThen (M_rn v)), M_ex v, M_im v, M_al v, M_thrown v) = some (mS v (paRow (M_s (M_rn v)) A nh)) := by
    rw [← hR]; exact hE
  by_cases g0 : h0 = NN 0
  · repeat first | (with_reducible refine s_nmj1 ?_) | (with_reducible refine s_nmj2 ?_) | ((with_reducible refine s_nm ?_); intro y_ hy_; (try simp (disch := omega) only [n_lit, n_add, n_mul, n_sub, n_tn, n_ltT, n_ltF, n_leT, n_leF, n_eqT, n_eqF, n_div, n_ixT, n_ixF, n_not, n_md, n_dec, n_and1, n_and3, n_and7, n_and15, n_and31, n_and63, Nat.mod_eq_of_lt, Nat.zero_add, Nat.add_zero, Nat.zero_mul, Nat.sub_zero, not_false_eq_true, not_true_eq_false, upd_at, upd_ne] at hy_); subst hy_) | ((with_reducible refine s_pos ?_ ?_); · simp (disch := omega) only [n_lit, n_add, n_mul, n_sub, n_tn, n_ltT, n_ltF, n_leT, n_leF, n_eqT, n_eqF, n_div, n_ixT, n_ixF, n_not, n_md, n_dec, n_and1, n_and3, n_and7, n_and15, n_and31, n_and63, Nat.mod_eq_of_lt, Nat.zero_add, Nat.add_zero, Nat.zero_mul, Nat.sub_zero, not_false_eq_true, not_true_eq_false, upd_at, upd_ne]) | ((with_reducible refine s_neg ?_ ?_); · simp (disch := omega) only [n_lit, n_add, n_mul, n_sub, n_tn, n_ltT, n_ltF, n_leT, n_leF, n_eqT, n_eqF, n_div, n_ixT, n_ixF, n_not, n_md, n_dec, n_and1, n_and3, n_and7, n_and15, n_and31, n_and63, Nat.mod_eq_of_lt, Nat.zero_add, Nat.add_zero, Nat.zero_mul, Nat.sub_zero, not_false_eq_true, not_true_eq_false, upd_at, upd_ne])  | (with_reducible refine s_bd hE2 ?_) | (with_reducible refine s_bd e0 ?_) | ((with_reducible refine s_pos ?_ ?_); · exact g0)
    rw [if_pos g0]
    rfl
  · by_cases g1 : h1 = NN 0
    · repeat first | (with_reducible refine s_nmj1 ?_) | (with_reducible refine s_nmj2 ?_) | ((with_reducible refine s_nm ?_); intro y_ hy_; (try simp (disch := omega) only [n_lit, n_add, n_mul, n_sub, n_tn, n_ltT, n_ltF, n_leT, n_leF, n_eqT, n_eqF, n_div, n_ixT, n_ixF, n_not, n_md, n_dec, n_and1, n_and3, n_and7, n_and15, n_and31, n_and63, Nat.mod_eq_of_lt, Nat.zero_add, Nat.add_zero, Nat.zero_mul, Nat.sub_zero, not_false_eq_true, not_true_eq_false, upd_at, upd_ne] at hy_); subst hy_) | ((with_reducible refine s_pos ?_ ?_); · simp (disch := omega) only [n_lit, n_add, n_mul, n_sub, n_tn, n_ltT, n_ltF, n_leT, n_leF, n_eqT, n_eqF, n_div, n_ixT, n_ixF, n_not, n_md, n_dec, n_and1, n_and3, n_and7, n_and15, n_and31, n_and63, Nat.mod_eq_of_lt, Nat.zero_add, Nat.add_zero, Nat.zero_mul, Nat.sub_zero, not_false_eq_true, not_true_eq_false, upd_at, upd_ne]) | ((with_reducible refine s_neg ?_ ?_); · simp (disch := omega) only [n_lit, n_add, n_mul, n_sub, n_tn, n_ltT, n_ltF, n_leT, n_leF, n_eqT, n_eqF, n_div, n_ixT, n_ixF, n_not, n_md, n_dec, n_and1, n_and3, n_and7, n_and15, n_and31, n_and63, Nat.mod_eq_of_lt, Nat.zero_add, Nat.add_zero, Nat.zero_mul, Nat.sub_zero, not_false_eq_true, not_true_eq_false, upd_at, upd_ne])  | (with_reducible refine s_bd hE2 ?_) | (with_reducible refine s_bd e0 ?_) | (with_reducible refine s_bd e1 ?_) | ((with_reducible refine s_neg ?_ ?_); · exact g0) | ((with_reducible refine s_pos ?_ ?_); · exact g1)
      rw [if_neg g0, if_pos g1]
      rfl
    · repeat first | (with_reducible refine s_nmj1 ?_) | (with_reducible refine s_nmj2 ?_) | ((with_reducible refine s_nm ?_); intro y_ hy_; (try simp (disch := omega) only [n_lit, n_add, n_mul, n_sub, n_tn, n_ltT, n_ltF, n_leT, n_leF, n_eqT, n_eqF, n_div, n_ixT, n_ixF, n_not, n_md, n_dec, n_and1, n_and3, n_and7, n_and15, n_and31, n_and63, Nat.mod_eq_of_lt, Nat.zero_add, Nat.add_zero, Nat.zero_mul, Nat.sub_zero, not_false_eq_true, not_true_eq_false, upd_at, upd_ne] at hy_); subst hy_) | ((with_reducible refine s_pos ?_ ?_); · simp (disch := omega) only [n_lit, n_add, n_mul, n_sub, n_tn, n_ltT, n_ltF, n_leT, n_leF, n_eqT, n_eqF, n_div, n_ixT, n_ixF, n_not, n_md, n_dec, n_and1, n_and3, n_and7, n_and15, n_and31, n_and63, Nat.mod_eq_of_lt, Nat.zero_add, Nat.add_zero, Nat.zero_mul, Nat.sub_zero, not_false_eq_true, not_true_eq_false, upd_at, upd_ne]) | ((with_reducible refine s_neg ?_ ?_); · simp (disch := omega) only [n_lit, n_add, n_mul, n_sub, n_tn, n_ltT, n_ltF, n_leT, n_leF, n_eqT, n_eqF, n_div, n_ixT, n_ixF, n_not, n_md, n_dec, n_and1, n_and3, n_and7, n_and15, n_and31, n_and63, Nat.mod_eq_of_lt, Nat.zero_add, Nat.add_zero, Nat.zero_mul, Nat.sub_zero, not_false_eq_true, not_true_eq_false, upd_at, upd_ne])  | (with_reducible refine s_bd hE2 ?_) | (with_reducible refine s_bd e0 ?_) | (with_reducible refine s_bd e1 ?_) | ((with_reducible refine s_neg ?_ ?_); · exact g0) | ((with_reducible refine s_neg ?_ ?_); · exact g1)
      rw [if_neg g0, if_neg g1]
      rfl
