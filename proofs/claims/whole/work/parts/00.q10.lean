/-! the model's row of numbers: what its steps make of it, place by place -/
def stk (s : Nat → Int32) : Nat → Int32 := fun j => if 4 ≤ j ∧ j < 20 then (s j &&& ~~~(s (j + 50))) ||| (s (j + 66) &&& s (j + 50)) else s j
set_option maxHeartbeats 1000000 in
theorem M_sticks (v : T_M) : f_M_sticks v = some ((M_tp v), (M_rd v), (M_lf v), (M_cd v), (stk (M_s (M_rn v)), (M_spanNow (M_rn v)), (M_sizeNow (M_rn v)), (M_placeThen (M_rn v))), (M_ex v), (M_im v), (M_al v), (M_thrown v)) := by
  unfold f_M_sticks
  obtain ⟨s', e, h⟩ := loop_up (f_M_sticks_L2 (fun (f3 : (Nat → Int32)) => (some ((M_tp v), (M_rd v), (M_lf v), (M_cd v), (f3, (M_spanNow (M_rn v)), (M_sizeNow (M_rn v)), (M_placeThen (M_rn v))), (M_ex v), (M_im v), (M_al v), (M_thrown v))))) _ (fun x f => ∀ j, f j = if 4 ≤ j ∧ j < 4 + x then stk (M_s (M_rn v)) j else M_s (M_rn v) j) 16
    (by
      intro n x f hx hI
      refine ⟨?w, ?h1, ?h2⟩
      case h1 =>
        simp only [f_M_sticks_L2]
        simp (disch := omega) only [nm, bd_some, bd2_some, bd3_some, n_lit, n_add, n_mul, n_sub, n_tn, n_lt, n_le, n_eq, n_div, n_negz, n_ix, n_not, if_pos, if_neg, false_or, or_false, not_false_eq_true, Nat.not_le, Nat.not_lt, if_true, if_false, upd_at, upd_ne]
        rfl
      case h2 =>
        intro j
        by_cases hj : j = 4 + x
        · subst hj
          simp (disch := omega) only [upd_at, if_pos, hI, if_neg, stk]; rw [show 4 + x + 50 = 54 + x by omega, show 4 + x + 66 = 70 + x by omega]
        · rw [upd_ne hj, hI j]
          have : (4 ≤ j ∧ j < 4 + (x + 1)) ↔ (4 ≤ j ∧ j < 4 + x) := by omega
          simp only [this])
    (by
      intro n s _
      simp only [f_M_sticks_L2]
      simp (disch := omega) only [nm, bd_some, bd2_some, bd3_some, n_lit, n_add, n_mul, n_sub, n_tn, n_lt, n_le, n_eq, n_div, n_negz, n_ix, n_not, if_pos, if_neg, false_or, or_false, not_false_eq_true, Nat.not_le, Nat.not_lt, if_true, if_false, upd_at, upd_ne]
      rfl) 16 0 LF (M_s (M_rn v)) (by omega) (lf_big (by decide)) (fun j => by rw [if_neg (by omega)])
  have hs : s' = stk (M_s (M_rn v)) := by
    funext j
    rw [h j]
    by_cases hj : 4 ≤ j ∧ j < 4 + 16
    · rw [if_pos hj]
    · rw [if_neg hj]; exact (if_neg hj).symm
  subst hs
  exact e
