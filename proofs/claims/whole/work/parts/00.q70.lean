/-! TOKENS -/
theorem n_or (a b : Nat) : NN a ||| NN b = NN (a ||| b) := by
  apply Int32.toBitVec_inj.mp
  rw [Int32.toBitVec_or]
  show BitVec.ofNat 32 a ||| BitVec.ofNat 32 b = BitVec.ofNat 32 (a ||| b)
  apply BitVec.eq_of_toNat_eq
  rw [BitVec.toNat_or, BitVec.toNat_ofNat, BitVec.toNat_ofNat, BitVec.toNat_ofNat, Nat.or_mod_two_pow]
theorem n_shl' {a b : Nat} (hb : b < 32) : NN a <<< NN b = NN (a * 2 ^ b) := by
  apply Int32.toBitVec_inj.mp
  rw [Int32.toBitVec_shiftLeft]
  have e : ∀ b, b < 32 → ((NN b).toBitVec.smod 32).toNat = b := by decide
  show BitVec.ofNat 32 a <<< ((NN b).toBitVec.smod 32).toNat = BitVec.ofNat 32 (a * 2 ^ b)
  rw [e b hb]
  apply BitVec.eq_of_toNat_eq
  rw [BitVec.toNat_shiftLeft, BitVec.toNat_ofNat, BitVec.toNat_ofNat, Nat.shiftLeft_eq, Nat.mod_mul_mod]
def WLs : List Nat := [4, 5, 6, 5, 4, 4, 2, 3, 3, 3, 3, 3, 4, 5, 3, 4, 5, 4, 4, 5, 4, 4, 4, 5, 4]
def WOs : List Nat := [0, 5, 11, 18, 24, 29, 34, 37, 41, 45, 49, 53, 57, 62, 68, 72, 77, 83, 88, 93, 99, 104, 109, 114, 120, 125]
def WCs : List (List Nat) := [[115, 112, 97, 110], [115, 108, 97, 99, 107], [113, 117, 101, 117, 101, 115], [116, 114, 105, 101, 115], [115, 101, 101, 100], [100, 97, 116, 97], [97, 116], [115, 101, 116], [97, 100, 100], [115, 117, 98], [109, 117, 108], [120, 111, 114], [108, 111, 97, 100], [115, 116, 111, 114, 101], [111, 117, 116], [114, 101, 97, 108], [119, 104, 111, 108, 101], [98, 105, 116, 115], [112, 108, 117, 115], [116, 105, 109, 101, 115], [106, 117, 109, 112], [122, 101, 114, 111], [108, 101, 115, 115], [117, 110, 100, 101, 114], [104, 97, 108, 116]]
def WPs : List Nat := [654358528, 650153312, 592630963, 690263648, 642945024, 135922688, 54525952, 269897728, 643432448, 37879808, 659619840, 458620928, 821624832, 418418688, 659015840, 525991936, 609267712, 780644512, 77220864, 550161408, 680957536, 358006784, 878263296, 408538112, 719459904]
def WL (k : Nat) : Nat := WLs.getD k 0
def WO (k : Nat) : Nat := WOs.getD k 0
def WC (k i : Nat) : Nat := (WCs.getD k []).getD i 0
def WP (k : Nat) : Nat := WPs.getD k 0
def cm (k : Nat) : Nat := if k ≤ 6 then k else if k = 7 then 24 else k - 1
theorem WL_6 : ∀ k, k < 25 → 1 ≤ WL k ∧ WL k ≤ 6 ∧ WO k + WL k < 125 ∧ WO (k + 1) = WO k + WL k + 1 := by decide
theorem WC_az : ∀ k, k < 25 → ∀ i, i < WL k → 97 ≤ WC k i ∧ WC k i ≤ 122 := by decide
theorem sch_c : ∀ k, k < 25 → ∀ i, i < WL k → sch 3 (NN (WO k + i)) = NN (WC k i) := by decide
theorem sch_b : ∀ k, k < 25 → sch 3 (NN (WO k + WL k)) = NN 32 := by decide
theorem cm_lt : ∀ k, k < 25 → cm k < 25 := by decide
theorem cm_on : ∀ w, w < 25 → ∃ k, k < 25 ∧ cm k = w := by decide
def dg (L : Nat → Nat) (len i : Nat) : Nat := if i < len then L i - 96 else 0
def hs (L : Nat → Nat) (len : Nat) : Nat → Nat
  | 0 => 0
  | i + 1 => hs L len i * 32 + dg L len i
theorem WP_h : ∀ k, k < 25 → WP k = hs (WC (cm k)) (WL (cm k)) 6 := by decide
theorem WP_lt : ∀ k, k < 25 → WP k < 1073741824 := by decide
/-- TEXT of an area of the TAPE -/
def TP (rd : T_Rd) (m : T_M) (n : Nat) (T : Nat → Nat) : Prop := Rd_limit rd = NN n ∧ M_size (M_rd m) = NN n ∧ n ≤ 700 ∧ ∀ j, j < n → T j < 256 ∧ Rd_tape rd j &&& NN 255 = NN (T j) ∧ M_tape (M_tp m) j = NN (T j)
def sg (T : Nat → Nat) (n j : Nat) : Int32 := if j < n then NN (T j) else -NN 1
theorem C_sa {v : T_Rd} {n j : Nat} {T : Nat → Nat} (h1 : Rd_limit v = NN n) (hn : n ≤ 700) (h2 : ∀ j, j < n → T j < 256 ∧ Rd_tape v j &&& NN 255 = NN (T j)) (hj : j ≤ 1000) : f_Rd_signAt v (NN j) = some (sg T n j) := by
  unfold f_Rd_signAt sg
  by_cases q : j < n
  · have := (h2 j q).2
    rw [if_pos q]
    repeat first | (with_reducible refine s_nmj1 ?_) | (with_reducible refine s_nmj2 ?_) | ((with_reducible refine s_nm ?_); intro y_ hy_; (try simp (disch := omega) only [n_lit, n_add, n_mul, n_sub, n_tn, n_ltT, n_ltF, n_leT, n_leF, n_eqT, n_eqF, n_div, n_ixT, n_ixF, n_not, n_md, n_dec, n_and1, n_and3, n_and7, n_and15, n_and31, n_and63, Nat.mod_eq_of_lt, Nat.zero_add, Nat.add_zero, Nat.zero_mul, Nat.sub_zero, not_false_eq_true, not_true_eq_false, upd_at, upd_ne, h1] at hy_); subst hy_) | ((with_reducible refine s_pos ?_ ?_); · simp (disch := omega) only [n_lit, n_add, n_mul, n_sub, n_tn, n_ltT, n_ltF, n_leT, n_leF, n_eqT, n_eqF, n_div, n_ixT, n_ixF, n_not, n_md, n_dec, n_and1, n_and3, n_and7, n_and15, n_and31, n_and63, Nat.mod_eq_of_lt, Nat.zero_add, Nat.add_zero, Nat.zero_mul, Nat.sub_zero, not_false_eq_true, not_true_eq_false, upd_at, upd_ne, h1]) | ((with_reducible refine s_neg ?_ ?_); · simp (disch := omega) only [n_lit, n_add, n_mul, n_sub, n_tn, n_ltT, n_ltF, n_leT, n_leF, n_eqT, n_eqF, n_div, n_ixT, n_ixF, n_not, n_md, n_dec, n_and1, n_and3, n_and7, n_and15, n_and31, n_and63, Nat.mod_eq_of_lt, Nat.zero_add, Nat.add_zero, Nat.zero_mul, Nat.sub_zero, not_false_eq_true, not_true_eq_false, upd_at, upd_ne, h1]) 
    simp (disch := omega) only [n_lit, n_add, n_mul, n_sub, n_tn, n_ltT, n_ltF, n_leT, n_leF, n_eqT, n_eqF, n_div, n_ixT, n_ixF, n_not, n_md, n_dec, n_and1, n_and3, n_and7, n_and15, n_and31, n_and63, Nat.mod_eq_of_lt, Nat.zero_add, Nat.add_zero, Nat.zero_mul, Nat.sub_zero, not_false_eq_true, not_true_eq_false, upd_at, upd_ne, this]
  · rw [if_neg q]
    repeat first | (with_reducible refine s_nmj1 ?_) | (with_reducible refine s_nmj2 ?_) | ((with_reducible refine s_nm ?_); intro y_ hy_; (try simp (disch := omega) only [n_lit, n_add, n_mul, n_sub, n_tn, n_ltT, n_ltF, n_leT, n_leF, n_eqT, n_eqF, n_div, n_ixT, n_ixF, n_not, n_md, n_dec, n_and1, n_and3, n_and7, n_and15, n_and31, n_and63, Nat.mod_eq_of_lt, Nat.zero_add, Nat.add_zero, Nat.zero_mul, Nat.sub_zero, not_false_eq_true, not_true_eq_false, upd_at, upd_ne, h1] at hy_); subst hy_) | ((with_reducible refine s_pos ?_ ?_); · simp (disch := omega) only [n_lit, n_add, n_mul, n_sub, n_tn, n_ltT, n_ltF, n_leT, n_leF, n_eqT, n_eqF, n_div, n_ixT, n_ixF, n_not, n_md, n_dec, n_and1, n_and3, n_and7, n_and15, n_and31, n_and63, Nat.mod_eq_of_lt, Nat.zero_add, Nat.add_zero, Nat.zero_mul, Nat.sub_zero, not_false_eq_true, not_true_eq_false, upd_at, upd_ne, h1]) | ((with_reducible refine s_neg ?_ ?_); · simp (disch := omega) only [n_lit, n_add, n_mul, n_sub, n_tn, n_ltT, n_ltF, n_leT, n_leF, n_eqT, n_eqF, n_div, n_ixT, n_ixF, n_not, n_md, n_dec, n_and1, n_and3, n_and7, n_and15, n_and31, n_and63, Nat.mod_eq_of_lt, Nat.zero_add, Nat.add_zero, Nat.zero_mul, Nat.sub_zero, not_false_eq_true, not_true_eq_false, upd_at, upd_ne, h1]) 
    rfl
theorem M_hr {v : T_M} {n j : Nat} {T : Nat → Nat} (h1 : M_size (M_rd v) = NN n) (hn : n ≤ 700) (h2 : ∀ j, j < n → T j < 256 ∧ M_tape (M_tp v) j = NN (T j)) (hj : j ≤ 1000) (ha : M_at (M_rd v) = NN j) : f_M_here v = some (sg T n j) := by
  unfold f_M_here sg
  by_cases q : j < n
  · have := (h2 j q).2
    rw [if_pos q]
    repeat first | (with_reducible refine s_nmj1 ?_) | (with_reducible refine s_nmj2 ?_) | ((with_reducible refine s_nm ?_); intro y_ hy_; (try simp (disch := omega) only [n_lit, n_add, n_mul, n_sub, n_tn, n_ltT, n_ltF, n_leT, n_leF, n_eqT, n_eqF, n_div, n_ixT, n_ixF, n_not, n_md, n_dec, n_and1, n_and3, n_and7, n_and15, n_and31, n_and63, Nat.mod_eq_of_lt, Nat.zero_add, Nat.add_zero, Nat.zero_mul, Nat.sub_zero, not_false_eq_true, not_true_eq_false, upd_at, upd_ne, h1, ha] at hy_); subst hy_) | ((with_reducible refine s_pos ?_ ?_); · simp (disch := omega) only [n_lit, n_add, n_mul, n_sub, n_tn, n_ltT, n_ltF, n_leT, n_leF, n_eqT, n_eqF, n_div, n_ixT, n_ixF, n_not, n_md, n_dec, n_and1, n_and3, n_and7, n_and15, n_and31, n_and63, Nat.mod_eq_of_lt, Nat.zero_add, Nat.add_zero, Nat.zero_mul, Nat.sub_zero, not_false_eq_true, not_true_eq_false, upd_at, upd_ne, h1, ha]) | ((with_reducible refine s_neg ?_ ?_); · simp (disch := omega) only [n_lit, n_add, n_mul, n_sub, n_tn, n_ltT, n_ltF, n_leT, n_leF, n_eqT, n_eqF, n_div, n_ixT, n_ixF, n_not, n_md, n_dec, n_and1, n_and3, n_and7, n_and15, n_and31, n_and63, Nat.mod_eq_of_lt, Nat.zero_add, Nat.add_zero, Nat.zero_mul, Nat.sub_zero, not_false_eq_true, not_true_eq_false, upd_at, upd_ne, h1, ha]) 
    simp (disch := omega) only [n_lit, n_add, n_mul, n_sub, n_tn, n_ltT, n_ltF, n_leT, n_leF, n_eqT, n_eqF, n_div, n_ixT, n_ixF, n_not, n_md, n_dec, n_and1, n_and3, n_and7, n_and15, n_and31, n_and63, Nat.mod_eq_of_lt, Nat.zero_add, Nat.add_zero, Nat.zero_mul, Nat.sub_zero, not_false_eq_true, not_true_eq_false, upd_at, upd_ne, ha, this]
  · rw [if_neg q]
    repeat first | (with_reducible refine s_nmj1 ?_) | (with_reducible refine s_nmj2 ?_) | ((with_reducible refine s_nm ?_); intro y_ hy_; (try simp (disch := omega) only [n_lit, n_add, n_mul, n_sub, n_tn, n_ltT, n_ltF, n_leT, n_leF, n_eqT, n_eqF, n_div, n_ixT, n_ixF, n_not, n_md, n_dec, n_and1, n_and3, n_and7, n_and15, n_and31, n_and63, Nat.mod_eq_of_lt, Nat.zero_add, Nat.add_zero, Nat.zero_mul, Nat.sub_zero, not_false_eq_true, not_true_eq_false, upd_at, upd_ne, h1, ha] at hy_); subst hy_) | ((with_reducible refine s_pos ?_ ?_); · simp (disch := omega) only [n_lit, n_add, n_mul, n_sub, n_tn, n_ltT, n_ltF, n_leT, n_leF, n_eqT, n_eqF, n_div, n_ixT, n_ixF, n_not, n_md, n_dec, n_and1, n_and3, n_and7, n_and15, n_and31, n_and63, Nat.mod_eq_of_lt, Nat.zero_add, Nat.add_zero, Nat.zero_mul, Nat.sub_zero, not_false_eq_true, not_true_eq_false, upd_at, upd_ne, h1, ha]) | ((with_reducible refine s_neg ?_ ?_); · simp (disch := omega) only [n_lit, n_add, n_mul, n_sub, n_tn, n_ltT, n_ltF, n_leT, n_leF, n_eqT, n_eqF, n_div, n_ixT, n_ixF, n_not, n_md, n_dec, n_and1, n_and3, n_and7, n_and15, n_and31, n_and63, Nat.mod_eq_of_lt, Nat.zero_add, Nat.add_zero, Nat.zero_mul, Nat.sub_zero, not_false_eq_true, not_true_eq_false, upd_at, upd_ne, h1, ha]) 
    rfl
