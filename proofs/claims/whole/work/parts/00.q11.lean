/-! the model's steps that hand over: loads, branches, what is held -/
def lastAt (f : Nat → Int32) (a : Int32) : Nat → Option Nat
  | 0 => none
  | n + 1 => if f n = a then some n else lastAt f a n
def lastW (f g : Nat → Int32) (a w : Int32) (n : Nat) : Int32 := match lastAt f a n with | none => w | some k => g k
theorem and31 (x : Int32) : ∃ n, n < 32 ∧ x &&& NN 31 = NN n := by
  have h : ix (x &&& 31) 32 := pk_andIn x 5 (by decide) (by decide)
  have h2 : ¬ ((x &&& 31) < 0 ∨ 32 ≤ (x &&& 31).toNatClampNeg) := h
  have h0 : (0 : Int32) ≤ (x &&& 31) := Int32.not_lt.mp (fun h => h2 (Or.inl h))
  exact ⟨(x &&& 31).toNatClampNeg, by omega, n_of _ h0⟩
theorem M_addressOf (v : T_M) (w p b d : Nat) (hw : w < 2) (hp : p < 40) (hb : b < 8) (hB : M_codeB (M_cd v) p = NN b) (hC : M_codeC (M_cd v) p = NN d) :
    f_M_addressOf v (NN w) (NN p) = some ((M_s (M_rn v) (4 + 8 * w + b) + NN d) &&& NN 31) := by
  unfold f_M_addressOf
  repeat first | (with_reducible refine s_nmj1 ?_) | (with_reducible refine s_nmj2 ?_) | (with_reducible refine s_nm ?_; intro y_ hy_; (try simp (disch := omega) only [n_lit, n_add, n_mul, n_sub, n_tn, n_ltT, n_ltF, n_leT, n_leF, n_eqT, n_eqF, n_div, n_ixT, n_ixF, n_not, n_md, Nat.zero_add, Nat.add_zero, Nat.zero_mul, Nat.sub_zero, not_false_eq_true, not_true_eq_false, upd_at, upd_ne, hB, hC] at hy_); subst hy_) | (with_reducible refine s_pos ?_ ?_; · simp (disch := omega) only [n_lit, n_add, n_mul, n_sub, n_tn, n_ltT, n_ltF, n_leT, n_leF, n_eqT, n_eqF, n_div, n_ixT, n_ixF, n_not, n_md, Nat.zero_add, Nat.add_zero, Nat.zero_mul, Nat.sub_zero, not_false_eq_true, not_true_eq_false, upd_at, upd_ne, hB, hC]) | (with_reducible refine s_neg ?_ ?_; · simp (disch := omega) only [n_lit, n_add, n_mul, n_sub, n_tn, n_ltT, n_ltF, n_leT, n_leF, n_eqT, n_eqF, n_div, n_ixT, n_ixF, n_not, n_md, Nat.zero_add, Nat.add_zero, Nat.zero_mul, Nat.sub_zero, not_false_eq_true, not_true_eq_false, upd_at, upd_ne, hB, hC]) 
  simp (disch := omega) only [nm, bd_some, bd2_some, bd3_some, n_lit, n_add, n_mul, n_sub, n_tn, n_ltT, n_ltF, n_leT, n_leF, n_eqT, n_eqF, n_div, n_ixT, n_ixF, n_not, n_md, Nat.zero_add, Nat.add_zero, Nat.zero_mul, Nat.sub_zero, not_false_eq_true, not_true_eq_false, if_pos, if_neg, false_or, or_false, not_false_eq_true, Nat.not_le, Nat.not_lt, if_true, if_false, Nat.zero_add, Nat.add_zero, Nat.zero_mul, Nat.sub_zero, upd_at, upd_ne, hB, hC]
theorem M_leaderHolds (v : T_M) (x y : Int32) (nh : Nat) (hn : nh < 8) (hH : M_s (M_rn v) 112 = NN nh) :
    f_M_leaderHolds v x y = some (NN 0, mS v (upd (upd (upd (M_s (M_rn v)) (114 + nh) x) (122 + nh) y) 112 (NN (nh + 1)))) := by
  unfold f_M_leaderHolds
  repeat first | (with_reducible refine s_nmj1 ?_) | (with_reducible refine s_nmj2 ?_) | (with_reducible refine s_nm ?_; intro y_ hy_; (try simp (disch := omega) only [n_lit, n_add, n_mul, n_sub, n_tn, n_ltT, n_ltF, n_leT, n_leF, n_eqT, n_eqF, n_div, n_ixT, n_ixF, n_not, n_md, Nat.zero_add, Nat.add_zero, Nat.zero_mul, Nat.sub_zero, not_false_eq_true, not_true_eq_false, upd_at, upd_ne, hH] at hy_); subst hy_) | (with_reducible refine s_pos ?_ ?_; · simp (disch := omega) only [n_lit, n_add, n_mul, n_sub, n_tn, n_ltT, n_ltF, n_leT, n_leF, n_eqT, n_eqF, n_div, n_ixT, n_ixF, n_not, n_md, Nat.zero_add, Nat.add_zero, Nat.zero_mul, Nat.sub_zero, not_false_eq_true, not_true_eq_false, upd_at, upd_ne, hH]) | (with_reducible refine s_neg ?_ ?_; · simp (disch := omega) only [n_lit, n_add, n_mul, n_sub, n_tn, n_ltT, n_ltF, n_leT, n_leF, n_eqT, n_eqF, n_div, n_ixT, n_ixF, n_not, n_md, Nat.zero_add, Nat.add_zero, Nat.zero_mul, Nat.sub_zero, not_false_eq_true, not_true_eq_false, upd_at, upd_ne, hH]) 
  rfl
theorem M_trailerHolds0 (v : T_M) (x y : Int32) (nc : Nat) (hn : nc < 8) (hH : M_s (M_rn v) 113 = NN nc) (h1 : M_s (M_rn v) (114 + nc) = x) (h2 : M_s (M_rn v) (122 + nc) = y) :
    f_M_trailerHolds v x y = some (NN 0, mS v (upd (upd (upd (M_s (M_rn v)) (130 + nc) x) (138 + nc) y) 113 (NN (nc + 1)))) := by
  unfold f_M_trailerHolds
  repeat first | (with_reducible refine s_nmj1 ?_) | (with_reducible refine s_nmj2 ?_) | (with_reducible refine s_nm ?_; intro y_ hy_; (try simp (disch := omega) only [n_lit, n_add, n_mul, n_sub, n_tn, n_ltT, n_ltF, n_leT, n_leF, n_eqT, n_eqF, n_div, n_ixT, n_ixF, n_not, n_md, Nat.zero_add, Nat.add_zero, Nat.zero_mul, Nat.sub_zero, not_false_eq_true, not_true_eq_false, upd_at, upd_ne, hH, h1, h2] at hy_); subst hy_) | (with_reducible refine s_pos ?_ ?_; · simp (disch := omega) only [n_lit, n_add, n_mul, n_sub, n_tn, n_ltT, n_ltF, n_leT, n_leF, n_eqT, n_eqF, n_div, n_ixT, n_ixF, n_not, n_md, Nat.zero_add, Nat.add_zero, Nat.zero_mul, Nat.sub_zero, not_false_eq_true, not_true_eq_false, upd_at, upd_ne, hH, h1, h2]) | (with_reducible refine s_neg ?_ ?_; · simp (disch := omega) only [n_lit, n_add, n_mul, n_sub, n_tn, n_ltT, n_ltF, n_leT, n_leF, n_eqT, n_eqF, n_div, n_ixT, n_ixF, n_not, n_md, Nat.zero_add, Nat.add_zero, Nat.zero_mul, Nat.sub_zero, not_false_eq_true, not_true_eq_false, upd_at, upd_ne, hH, h1, h2]) 
  rfl
theorem M_trailerHolds3 (v : T_M) (x y : Int32) (nc : Nat) (hn : nc < 8) (hH : M_s (M_rn v) 113 = NN nc) (h : ¬ (M_s (M_rn v) (114 + nc) = x ∧ M_s (M_rn v) (122 + nc) = y)) :
    f_M_trailerHolds v x y = some (NN 3, mS v (upd (upd (M_s (M_rn v)) (130 + nc) x) (138 + nc) y)) := by
  unfold f_M_trailerHolds
  by_cases h1 : M_s (M_rn v) (114 + nc) = x
  · have h2 : ¬ M_s (M_rn v) (122 + nc) = y := fun h2 => h ⟨h1, h2⟩
    repeat first | (with_reducible refine s_nmj1 ?_) | (with_reducible refine s_nmj2 ?_) | (with_reducible refine s_nm ?_; intro y_ hy_; (try simp (disch := omega) only [n_lit, n_add, n_mul, n_sub, n_tn, n_ltT, n_ltF, n_leT, n_leF, n_eqT, n_eqF, n_div, n_ixT, n_ixF, n_not, n_md, Nat.zero_add, Nat.add_zero, Nat.zero_mul, Nat.sub_zero, not_false_eq_true, not_true_eq_false, upd_at, upd_ne, hH, h1, h2] at hy_); subst hy_) | (with_reducible refine s_pos ?_ ?_; · simp (disch := omega) only [n_lit, n_add, n_mul, n_sub, n_tn, n_ltT, n_ltF, n_leT, n_leF, n_eqT, n_eqF, n_div, n_ixT, n_ixF, n_not, n_md, Nat.zero_add, Nat.add_zero, Nat.zero_mul, Nat.sub_zero, not_false_eq_true, not_true_eq_false, upd_at, upd_ne, hH, h1, h2]) | (with_reducible refine s_neg ?_ ?_; · simp (disch := omega) only [n_lit, n_add, n_mul, n_sub, n_tn, n_ltT, n_ltF, n_leT, n_leF, n_eqT, n_eqF, n_div, n_ixT, n_ixF, n_not, n_md, Nat.zero_add, Nat.add_zero, Nat.zero_mul, Nat.sub_zero, not_false_eq_true, not_true_eq_false, upd_at, upd_ne, hH, h1, h2]) 
    rfl
  · repeat first | (with_reducible refine s_nmj1 ?_) | (with_reducible refine s_nmj2 ?_) | (with_reducible refine s_nm ?_; intro y_ hy_; (try simp (disch := omega) only [n_lit, n_add, n_mul, n_sub, n_tn, n_ltT, n_ltF, n_leT, n_leF, n_eqT, n_eqF, n_div, n_ixT, n_ixF, n_not, n_md, Nat.zero_add, Nat.add_zero, Nat.zero_mul, Nat.sub_zero, not_false_eq_true, not_true_eq_false, upd_at, upd_ne, hH, h1] at hy_); subst hy_) | (with_reducible refine s_pos ?_ ?_; · simp (disch := omega) only [n_lit, n_add, n_mul, n_sub, n_tn, n_ltT, n_ltF, n_leT, n_leF, n_eqT, n_eqF, n_div, n_ixT, n_ixF, n_not, n_md, Nat.zero_add, Nat.add_zero, Nat.zero_mul, Nat.sub_zero, not_false_eq_true, not_true_eq_false, upd_at, upd_ne, hH, h1]) | (with_reducible refine s_neg ?_ ?_; · simp (disch := omega) only [n_lit, n_add, n_mul, n_sub, n_tn, n_ltT, n_ltF, n_leT, n_leF, n_eqT, n_eqF, n_div, n_ixT, n_ixF, n_not, n_md, Nat.zero_add, Nat.add_zero, Nat.zero_mul, Nat.sub_zero, not_false_eq_true, not_true_eq_false, upd_at, upd_ne, hH, h1]) 
    rfl
set_option maxHeartbeats 1000000 in
theorem M_leaderLoads (v : T_M) (p a b d nl nh ad : Nat) (hp : p < 40) (ha : a < 8) (hb : b < 8) (hA : M_codeA (M_cd v) p = NN a) (hB : M_codeB (M_cd v) p = NN b) (hC : M_codeC (M_cd v) p = NN d)
    (hL : M_s (M_rn v) 86 = NN nl) (hnl : nl < 8) (hH : M_s (M_rn v) 112 = NN nh) (hnh : nh ≤ 8) (had : ad < 32) (hAd : (M_s (M_rn v) (4 + b) + NN d) &&& NN 31 = NN ad) {wd : Int32}
    (hwd : lastW (fun k => M_s (M_rn v) (114 + k)) (fun k => M_s (M_rn v) (122 + k)) (NN ad) (M_s (M_rn v) (146 + ad)) nh = wd) :
    f_M_leaderLoads v (NN p) = some (NN 0, mS v (upd (upd (upd (upd (M_s (M_rn v)) (87 + nl) (NN ad)) (95 + nl) wd) 86 (NN (nl + 1))) (4 + a) wd)) := by
  unfold f_M_leaderLoads
  have e0 : f_M_addressOf v 0 (NN p) = some (NN ad) := (M_addressOf v 0 p b d (by decide) hp hb hB hC).trans (by rw [← hAd])
  repeat first | (with_reducible refine s_nmj1 ?_) | (with_reducible refine s_nmj2 ?_) | (with_reducible refine s_nm ?_; intro y_ hy_; (try simp (disch := omega) only [n_lit, n_add, n_mul, n_sub, n_tn, n_ltT, n_ltF, n_leT, n_leF, n_eqT, n_eqF, n_div, n_ixT, n_ixF, n_not, n_md, Nat.zero_add, Nat.add_zero, Nat.zero_mul, Nat.sub_zero, not_false_eq_true, not_true_eq_false, upd_at, upd_ne, hL, hH, hA, hB, hC] at hy_); subst hy_) | (with_reducible refine s_pos ?_ ?_; · simp (disch := omega) only [n_lit, n_add, n_mul, n_sub, n_tn, n_ltT, n_ltF, n_leT, n_leF, n_eqT, n_eqF, n_div, n_ixT, n_ixF, n_not, n_md, Nat.zero_add, Nat.add_zero, Nat.zero_mul, Nat.sub_zero, not_false_eq_true, not_true_eq_false, upd_at, upd_ne, hL, hH, hA, hB, hC]) | (with_reducible refine s_neg ?_ ?_; · simp (disch := omega) only [n_lit, n_add, n_mul, n_sub, n_tn, n_ltT, n_ltF, n_leT, n_leF, n_eqT, n_eqF, n_div, n_ixT, n_ixF, n_not, n_md, Nat.zero_add, Nat.add_zero, Nat.zero_mul, Nat.sub_zero, not_false_eq_true, not_true_eq_false, upd_at, upd_ne, hL, hH, hA, hB, hC])  | (with_reducible refine s_bd e0 ?_)
  rw [n_lit]
  obtain ⟨s', e, h⟩ := loop_up (fun n x s => f_M_leaderLoads_L21 v (NN ad) (fun x7 => if ix (87 + M_s (M_rn v) (Int32.toNatClampNeg 86)) 314 then
            nm (upd (M_s (M_rn v)) (87 + M_s (M_rn v) (Int32.toNatClampNeg 86)).toNatClampNeg (NN ad)) fun f16 =>
              if ix (95 + f16 (Int32.toNatClampNeg 86)) 314 then
                nm (upd f16 (95 + f16 (Int32.toNatClampNeg 86)).toNatClampNeg x7) fun f18 =>
                  nm (f18 (Int32.toNatClampNeg 86) + 1) fun x19 =>
                    nm (upd f18 (Int32.toNatClampNeg 86) x19) fun f20 =>
                      if ix (NN p) 80 then
                        if ix (4 + M_codeA (M_cd v) (NN p).toNatClampNeg) 314 then
                          nm (upd f20 (4 + M_codeA (M_cd v) (NN p).toNatClampNeg).toNatClampNeg x7) fun f23 =>
                            some
                              (0, M_tp v, M_rd v, M_lf v, M_cd v,
                                (f23, M_spanNow (M_rn v), M_sizeNow (M_rn v), M_placeThen (M_rn v)), M_ex v, M_im v,
                                M_al v, M_thrown v)
                        else none
                      else none
              else none
          else none) n s x) (fun x7 => some (NN 0, mS v (upd (upd (upd (upd (M_s (M_rn v)) (87 + nl) (NN ad)) (95 + nl) x7) 86 (NN (nl + 1))) (4 + a) x7)))
      (fun x s => lastW (fun k => M_s (M_rn v) (114 + k)) (fun k => M_s (M_rn v) (122 + k)) (NN ad) (M_s (M_rn v) (146 + ad)) x = s) nh
      (by
        intro n x s hx hI
        by_cases hq : M_s (M_rn v) (114 + x) = NN ad
        · refine ⟨M_s (M_rn v) (122 + x), ?_, ?_⟩
          · simp only [f_M_leaderLoads_L21]
            repeat first | (with_reducible refine s_nmj1 ?_) | (with_reducible refine s_nmj2 ?_) | (with_reducible refine s_nm ?_; intro y_ hy_; (try simp (disch := omega) only [n_lit, n_add, n_mul, n_sub, n_tn, n_ltT, n_ltF, n_leT, n_leF, n_eqT, n_eqF, n_div, n_ixT, n_ixF, n_not, n_md, Nat.zero_add, Nat.add_zero, Nat.zero_mul, Nat.sub_zero, not_false_eq_true, not_true_eq_false, upd_at, upd_ne, hH, hq] at hy_); subst hy_) | (with_reducible refine s_pos ?_ ?_; · simp (disch := omega) only [n_lit, n_add, n_mul, n_sub, n_tn, n_ltT, n_ltF, n_leT, n_leF, n_eqT, n_eqF, n_div, n_ixT, n_ixF, n_not, n_md, Nat.zero_add, Nat.add_zero, Nat.zero_mul, Nat.sub_zero, not_false_eq_true, not_true_eq_false, upd_at, upd_ne, hH, hq]) | (with_reducible refine s_neg ?_ ?_; · simp (disch := omega) only [n_lit, n_add, n_mul, n_sub, n_tn, n_ltT, n_ltF, n_leT, n_leF, n_eqT, n_eqF, n_div, n_ixT, n_ixF, n_not, n_md, Nat.zero_add, Nat.add_zero, Nat.zero_mul, Nat.sub_zero, not_false_eq_true, not_true_eq_false, upd_at, upd_ne, hH, hq]) 
            rfl
          · simp only [lastW, lastAt]; rw [if_pos hq]
        · refine ⟨s, ?_, ?_⟩
          · simp only [f_M_leaderLoads_L21]
            repeat first | (with_reducible refine s_nmj1 ?_) | (with_reducible refine s_nmj2 ?_) | (with_reducible refine s_nm ?_; intro y_ hy_; (try simp (disch := omega) only [n_lit, n_add, n_mul, n_sub, n_tn, n_ltT, n_ltF, n_leT, n_leF, n_eqT, n_eqF, n_div, n_ixT, n_ixF, n_not, n_md, Nat.zero_add, Nat.add_zero, Nat.zero_mul, Nat.sub_zero, not_false_eq_true, not_true_eq_false, upd_at, upd_ne, hH, hq] at hy_); subst hy_) | (with_reducible refine s_pos ?_ ?_; · simp (disch := omega) only [n_lit, n_add, n_mul, n_sub, n_tn, n_ltT, n_ltF, n_leT, n_leF, n_eqT, n_eqF, n_div, n_ixT, n_ixF, n_not, n_md, Nat.zero_add, Nat.add_zero, Nat.zero_mul, Nat.sub_zero, not_false_eq_true, not_true_eq_false, upd_at, upd_ne, hH, hq]) | (with_reducible refine s_neg ?_ ?_; · simp (disch := omega) only [n_lit, n_add, n_mul, n_sub, n_tn, n_ltT, n_ltF, n_leT, n_leF, n_eqT, n_eqF, n_div, n_ixT, n_ixF, n_not, n_md, Nat.zero_add, Nat.add_zero, Nat.zero_mul, Nat.sub_zero, not_false_eq_true, not_true_eq_false, upd_at, upd_ne, hH, hq]) 
            rfl
          · simp only [lastW, lastAt] at hI ⊢; rw [if_neg hq]; exact hI)
      (by
        intro n s _
        simp only [f_M_leaderLoads_L21]
        repeat first | (with_reducible refine s_nmj1 ?_) | (with_reducible refine s_nmj2 ?_) | (with_reducible refine s_nm ?_; intro y_ hy_; (try simp (disch := omega) only [n_lit, n_add, n_mul, n_sub, n_tn, n_ltT, n_ltF, n_leT, n_leF, n_eqT, n_eqF, n_div, n_ixT, n_ixF, n_not, n_md, Nat.zero_add, Nat.add_zero, Nat.zero_mul, Nat.sub_zero, not_false_eq_true, not_true_eq_false, upd_at, upd_ne, hH, hL, hA] at hy_); subst hy_) | (with_reducible refine s_pos ?_ ?_; · simp (disch := omega) only [n_lit, n_add, n_mul, n_sub, n_tn, n_ltT, n_ltF, n_leT, n_leF, n_eqT, n_eqF, n_div, n_ixT, n_ixF, n_not, n_md, Nat.zero_add, Nat.add_zero, Nat.zero_mul, Nat.sub_zero, not_false_eq_true, not_true_eq_false, upd_at, upd_ne, hH, hL, hA]) | (with_reducible refine s_neg ?_ ?_; · simp (disch := omega) only [n_lit, n_add, n_mul, n_sub, n_tn, n_ltT, n_ltF, n_leT, n_leF, n_eqT, n_eqF, n_div, n_ixT, n_ixF, n_not, n_md, Nat.zero_add, Nat.add_zero, Nat.zero_mul, Nat.sub_zero, not_false_eq_true, not_true_eq_false, upd_at, upd_ne, hH, hL, hA]) 
        rfl) nh 0 LF (M_s (M_rn v) (146 + ad)) (by omega) (lf_big (by omega)) rfl
  rw [hwd] at h
  subst h
  exact e
def sh1 (lo hi : Nat) (s : Nat → Int32) : Nat → Int32 := fun j => if lo ≤ j ∧ j < hi then s (j + 1) else s j
