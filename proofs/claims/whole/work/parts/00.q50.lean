/-! what the next TURN would be -/
def RG (o : Option Int32) : Prop := ∀ a, o = some a → ∃ k, k ≤ 6 ∧ a = NN k
theorem RG_if {c : Prop} [Decidable c] {x y : Option Int32} (h1 : RG x) (h2 : RG y) : RG (if c then x else y) := by
  split
  · exact h1
  · exact h2
theorem RG_bd {α : Type} {o : Option α} {k : α → Option Int32} (h : ∀ y, RG (k y)) : RG (bd o k) := by
  cases o with
  | none => intro a e; exact absurd e (by show ¬ (none = some a); simp)
  | some y => exact h y
theorem RG_nm {α : Type} {x : α} {k : α → Option Int32} (h : ∀ y, RG (k y)) : RG (nm x k) := h x
theorem RG_some {k : Nat} (h : k ≤ 6) : RG (some (NN k)) := fun a e => ⟨k, h, (Option.some.inj e).symm⟩
theorem RG_T (pa : T_Pa) (pr : T_Pg) : RG (f_Pa_alarmOfTrailer pa pr) := by
  unfold f_Pa_alarmOfTrailer
  repeat' first | (with_reducible refine RG_nm ?_; intro _) | (with_reducible refine RG_bd ?_; intro _) | (with_reducible refine RG_if ?_ ?_) | exact RG_some (k := 0) (by decide) | exact RG_some (k := 1) (by decide) | exact RG_some (k := 2) (by decide) | exact RG_some (k := 3) (by decide)
theorem RG_P (pa : T_Pa) : RG (f_Pa_alarmOfPoint pa) := by
  unfold f_Pa_alarmOfPoint
  repeat' first | (with_reducible refine RG_nm ?_; intro _) | (with_reducible refine RG_bd ?_; intro _) | (with_reducible refine RG_if ?_ ?_) | exact RG_some (k := 0) (by decide) | exact RG_some (k := 4) (by decide) | exact RG_some (k := 5) (by decide) | exact RG_some (k := 6) (by decide)
theorem bd_elim {α β : Type} {o : Option α} {k : α → Option β} {r : β} (h : bd o k = some r) : ∃ y, o = some y ∧ k y = some r := by
  cases o with
  | none => exact absurd h (by show ¬ (none = some r); simp)
  | some y => exact ⟨y, rfl, h⟩
theorem up_kind {pa : T_Pa} {pr : T_Pg} {kind yl yt : Nat} (hk : kind ≤ 16) (b1 : yl ≤ 4) (b2 : yt ≤ 4) (d1 : Pa_done pa = NN 0) (w1 : Pa_down pa = NN 0) (e : f_Pa_upcoming pa pr = some (NN kind)) (eT : f_Pa_whyTrailerWaits pa pr = some (NN yt)) (eL : f_Pa_whyLeaderWaits pa pr = some (NN yl)) :
    kind ≤ 10 → kind = if yt = 0 then 0 else if yl = 0 then 1 else 2 := by
  intro hk10
  by_cases q : yt = 0
  · rw [if_pos q]
    subst q
    have : ∃ r, f_Pa_alarmOfTrailer pa pr = some r := by
      unfold f_Pa_upcoming at e
      rw [d1, w1, if_pos (show NN 0 = 0 from rfl), if_pos (show NN 0 = 0 from rfl)] at e
      obtain ⟨y, e1, e2⟩ := bd_elim e
      rw [eT] at e1
      rw [← Option.some.inj e1, if_pos (show NN 0 = 0 from rfl)] at e2
      obtain ⟨y2, e3, -⟩ := bd_elim e2
      exact ⟨y2, e3⟩
    obtain ⟨r, hr⟩ := this
    obtain ⟨k, hk6, rfl⟩ := RG_T pa pr r hr
    have := (C_upT hk6 d1 w1 eT hr).symm.trans e
    have := n_inj (by split <;> omega) (by omega) (Option.some.inj this)
    split at this <;> omega
  · rw [if_neg q]
    by_cases q2 : yl = 0
    · rw [if_pos q2]
      subst q2
      exact (n_inj (by omega) (by omega) (Option.some.inj ((C_upL ⟨by omega, b2⟩ d1 w1 eT eL).symm.trans e))).symm
    · rw [if_neg q2]
      have z0 : ¬ (NN yt = 0) := by show ¬ (NN yt = NN 0); rw [n_eq (by omega) (by omega)]; exact q
      have z1 : ¬ (NN yl = 0) := by show ¬ (NN yl = NN 0); rw [n_eq (by omega) (by omega)]; exact q2
      have : ∃ r, f_Pa_alarmOfPoint pa = some r := by
        unfold f_Pa_upcoming at e
        rw [d1, w1, if_pos (show NN 0 = 0 from rfl), if_pos (show NN 0 = 0 from rfl)] at e
        obtain ⟨y, e1, e2⟩ := bd_elim e
        rw [eT] at e1
        rw [← Option.some.inj e1, if_neg z0] at e2
        obtain ⟨y2, e3, e4⟩ := bd_elim e2
        rw [eL] at e3
        rw [← Option.some.inj e3, if_neg z1] at e4
        obtain ⟨y3, e5, -⟩ := bd_elim e4
        exact ⟨y3, e5⟩
      obtain ⟨r, hr⟩ := this
      obtain ⟨k, hk6, rfl⟩ := RG_P pa r hr
      have := (C_upP ⟨by omega, b2⟩ ⟨by omega, b1⟩ hk6 d1 w1 eT eL hr).symm.trans e
      have := n_inj (by split <;> omega) (by omega) (Option.some.inj this)
      split at this <;> omega
abbrev T_Mx : Type := (Nat → Int32) × (Nat → Int32) × Int32 × Int32
abbrev T_Ml : Type := Int32 × Int32 × Int32 × (Nat → Int32) × (Nat → Int32) × (Nat → Int32) × (Nat → Int32)
def mG (m : T_M) (row : Nat → Int32) (pt : Int32) (ex : T_Mx) (al : T_Ml) : T_M := ((M_tp m), (M_rd m), (M_lf m), (M_cd m), (row, (M_spanNow (M_rn m)), (M_sizeNow (M_rn m)), pt), ex, (M_im m), al, (0 : Int32))
theorem RPa_mG {B : Nat} {pa : T_Pa} {pr : T_Pg} {m : T_M} {r : Nat → Int32} (h : RPa B pa pr (mS m r)) (pt : Int32) (ex : T_Mx) (al : T_Ml) : RPa B pa pr (mG m r pt ex al) := h
theorem RPa_al {B : Nat} {pa : T_Pa} {pr : T_Pg} {m : T_M} (h : RPa B pa pr m) : ∃ al, al ≤ B ∧ M_s (M_rn m) 221 = NN al := by
  obtain ⟨n, sp, lo, hi, z0, z1, z2, tr, pl, nl, pt, nt, pb, fl, nld, fb, nbr, nh, nc, ns, no, tu, po, al, si, sm, dn, dw, hcd, hru, hq, hbk, hou, hta, hdn, hdw, hbd⟩ := h
  exact ⟨al, by omega, hta.2.2.1.2⟩
set_option maxHeartbeats 4000000 in
theorem sim_next {B : Nat} {pa : T_Pa} {pr : T_Pg} {m : T_M} (h : RPa B pa pr m) (hB : B < 900000) (tt : T_TT) :
    ∃ r row pt ex, f_TT_next tt pa pr = some r ∧ f_M_next m = some (r, mG m row pt ex (M_al m)) ∧ RPa B pa pr (mG m row pt ex (M_al m)) := by
  have h' : RPa B pa pr (mT m) := h
  rcases turn_or h' with ⟨⟨o1, o2, o3⟩, ⟨o4, o5⟩, -⟩ | ⟨o1, o2, -, -, o3⟩
  · simp only [mT] at o4
    refine ⟨-2, M_s (M_rn m), M_placeThen (M_rn m), M_ex m, ?_, ?_, h⟩
    · unfold f_TT_next
      repeat first | (with_reducible refine s_nmj1 ?_) | (with_reducible refine s_nmj2 ?_) | ((with_reducible refine s_nm ?_); intro y_ hy_; (try simp (disch := omega) only [n_lit, n_add, n_mul, n_sub, n_tn, n_ltT, n_ltF, n_leT, n_leF, n_eqT, n_eqF, n_div, n_ixT, n_ixF, n_not, n_md, n_dec, n_and1, n_and3, n_and7, n_and15, n_and31, n_and63, Nat.mod_eq_of_lt, Nat.zero_add, Nat.add_zero, Nat.zero_mul, Nat.sub_zero, not_false_eq_true, not_true_eq_false, upd_at, upd_ne] at hy_); subst hy_) | ((with_reducible refine s_pos ?_ ?_); · simp (disch := omega) only [n_lit, n_add, n_mul, n_sub, n_tn, n_ltT, n_ltF, n_leT, n_leF, n_eqT, n_eqF, n_div, n_ixT, n_ixF, n_not, n_md, n_dec, n_and1, n_and3, n_and7, n_and15, n_and31, n_and63, Nat.mod_eq_of_lt, Nat.zero_add, Nat.add_zero, Nat.zero_mul, Nat.sub_zero, not_false_eq_true, not_true_eq_false, upd_at, upd_ne]) | ((with_reducible refine s_neg ?_ ?_); · simp (disch := omega) only [n_lit, n_add, n_mul, n_sub, n_tn, n_ltT, n_ltF, n_leT, n_leF, n_eqT, n_eqF, n_div, n_ixT, n_ixF, n_not, n_md, n_dec, n_and1, n_and3, n_and7, n_and15, n_and31, n_and63, Nat.mod_eq_of_lt, Nat.zero_add, Nat.add_zero, Nat.zero_mul, Nat.sub_zero, not_false_eq_true, not_true_eq_false, upd_at, upd_ne])  | (with_reducible refine s_bd o1 ?_)
      rfl
    · unfold f_M_next
      repeat first | (with_reducible refine s_nmj1 ?_) | (with_reducible refine s_nmj2 ?_) | ((with_reducible refine s_nm ?_); intro y_ hy_; (try simp (disch := omega) only [n_lit, n_add, n_mul, n_sub, n_tn, n_ltT, n_ltF, n_leT, n_leF, n_eqT, n_eqF, n_div, n_ixT, n_ixF, n_not, n_md, n_dec, n_and1, n_and3, n_and7, n_and15, n_and31, n_and63, Nat.mod_eq_of_lt, Nat.zero_add, Nat.add_zero, Nat.zero_mul, Nat.sub_zero, not_false_eq_true, not_true_eq_false, upd_at, upd_ne] at hy_); subst hy_) | ((with_reducible refine s_pos ?_ ?_); · simp (disch := omega) only [n_lit, n_add, n_mul, n_sub, n_tn, n_ltT, n_ltF, n_leT, n_leF, n_eqT, n_eqF, n_div, n_ixT, n_ixF, n_not, n_md, n_dec, n_and1, n_and3, n_and7, n_and15, n_and31, n_and63, Nat.mod_eq_of_lt, Nat.zero_add, Nat.add_zero, Nat.zero_mul, Nat.sub_zero, not_false_eq_true, not_true_eq_false, upd_at, upd_ne]) | ((with_reducible refine s_neg ?_ ?_); · simp (disch := omega) only [n_lit, n_add, n_mul, n_sub, n_tn, n_ltT, n_ltF, n_leT, n_leF, n_eqT, n_eqF, n_div, n_ixT, n_ixF, n_not, n_md, n_dec, n_and1, n_and3, n_and7, n_and15, n_and31, n_and63, Nat.mod_eq_of_lt, Nat.zero_add, Nat.add_zero, Nat.zero_mul, Nat.sub_zero, not_false_eq_true, not_true_eq_false, upd_at, upd_ne])  | (with_reducible refine s_bd o4 ?_)
      rfl
  · obtain ⟨yl, yt, b1, b2, c1, c2, c3, c4⟩ := whys h'
    simp only [mT] at o3 c3 c4
    obtain ⟨g, eg, hg⟩ := M_copies1 (M_s (M_rn m)) (M_aside (M_ex m))
    obtain ⟨v, hv⟩ : ∃ v : T_M, v = ((M_tp m), (M_rd m), (M_lf m), (M_cd m), (M_rn m), (g, (M_further (M_ex m)), (M_shotAlarm (M_ex m)), (M_drawn (M_ex m))), (M_im m), (M_al m), (0 : Int32)) := ⟨_, rfl⟩
    have hv2 : RPa B pa pr v := by rw [hv]; exact h
    obtain ⟨kind, pa', row, pt, e1, e2, e3, e4, e5⟩ := sim_turn hv2 (by omega) o1 o2
    have hs : M_s (M_rn v) = M_s (M_rn m) := by rw [hv]; rfl
    have hx : M_ex (mP v row pt) = (g, (M_further (M_ex m)), (M_shotAlarm (M_ex m)), (M_drawn (M_ex m))) := by rw [hv]; rfl
    rw [hs] at e5
    obtain ⟨g2, eg2, hg2⟩ := M_copies1 g row
    have hf : RPa B pa pr (mG m g2 pt (g, (M_further (M_ex m)), (M_shotAlarm (M_ex m)), (M_drawn (M_ex m))) (M_al m)) :=
      RPa_mG (RPa_row h (fun j hj => (hg2 j hj).trans (hg j hj))) _ _ _
    have hk := KD_kind e5
    have hu := up_kind hk b1 b2 o1 o2 e1 c2 c1
    obtain ⟨al, hal, ea⟩ := RPa_al h
    refine ⟨NN kind, g2, pt, _, ?_, ?_, hf⟩
    · unfold f_TT_next
      repeat first | (with_reducible refine s_nmj1 ?_) | (with_reducible refine s_nmj2 ?_) | ((with_reducible refine s_nm ?_); intro y_ hy_; (try simp (disch := omega) only [n_lit, n_add, n_mul, n_sub, n_tn, n_ltT, n_ltF, n_leT, n_leF, n_eqT, n_eqF, n_div, n_ixT, n_ixF, n_not, n_md, n_dec, n_and1, n_and3, n_and7, n_and15, n_and31, n_and63, Nat.mod_eq_of_lt, Nat.zero_add, Nat.add_zero, Nat.zero_mul, Nat.sub_zero, not_false_eq_true, not_true_eq_false, upd_at, upd_ne] at hy_); subst hy_) | ((with_reducible refine s_pos ?_ ?_); · simp (disch := omega) only [n_lit, n_add, n_mul, n_sub, n_tn, n_ltT, n_ltF, n_leT, n_leF, n_eqT, n_eqF, n_div, n_ixT, n_ixF, n_not, n_md, n_dec, n_and1, n_and3, n_and7, n_and15, n_and31, n_and63, Nat.mod_eq_of_lt, Nat.zero_add, Nat.add_zero, Nat.zero_mul, Nat.sub_zero, not_false_eq_true, not_true_eq_false, upd_at, upd_ne]) | ((with_reducible refine s_neg ?_ ?_); · simp (disch := omega) only [n_lit, n_add, n_mul, n_sub, n_tn, n_ltT, n_ltF, n_leT, n_leF, n_eqT, n_eqF, n_div, n_ixT, n_ixF, n_not, n_md, n_dec, n_and1, n_and3, n_and7, n_and15, n_and31, n_and63, Nat.mod_eq_of_lt, Nat.zero_add, Nat.add_zero, Nat.zero_mul, Nat.sub_zero, not_false_eq_true, not_true_eq_false, upd_at, upd_ne])  | (with_reducible refine s_bd e1 ?_)
      rfl
    have e3' : f_M_turns ((M_tp m), (M_rd m), (M_lf m), (M_cd m), (M_rn m), (g, (M_further (M_ex m)), (M_shotAlarm (M_ex m)), (M_drawn (M_ex m))), (M_im m), (M_al m), (0 : Int32)) 0 = some (NN 1, mP v row pt) := by rw [← hv]; exact e3
    have eg2' : f_M_copies (M_aside (M_ex (mP v row pt))) (M_s (M_rn (mP v row pt))) = some g2 := by rw [hx]; exact eg2
    have hfin : ((M_tp (mP v row pt)), (M_rd (mP v row pt)), (M_lf (mP v row pt)), (M_cd (mP v row pt)), (g2, (M_spanNow (M_rn (mP v row pt))), (M_sizeNow (M_rn (mP v row pt))), (M_placeThen (M_rn (mP v row pt)))), (M_ex (mP v row pt)), (M_im (mP v row pt)), (M_al (mP v row pt)), (M_thrown (mP v row pt))) = mG m g2 pt (g, (M_further (M_ex m)), (M_shotAlarm (M_ex m)), (M_drawn (M_ex m))) (M_al m) := by rw [hv]; rfl
    have hrow : M_s (M_rn (mP v row pt)) = row := rfl
    by_cases qk : kind ≤ 10
    · replace hu := hu qk
      have hr : row 221 = NN al := by
        rcases e5 with ⟨-, -, q, -⟩ | ⟨-, -, q⟩ | ⟨k, q1, q2, q3, -⟩
        · rw [q, ea]
        · rw [q, ea]
        · omega
      unfold f_M_next
      by_cases q : yt = 0
      · rw [if_pos q] at hu
        subst q
        repeat first | (with_reducible refine s_nmj1 ?_) | (with_reducible refine s_nmj2 ?_) | ((with_reducible refine s_nm ?_); intro y_ hy_; (try simp (disch := omega) only [n_lit, n_add, n_mul, n_sub, n_tn, n_ltT, n_ltF, n_leT, n_leF, n_eqT, n_eqF, n_div, n_ixT, n_ixF, n_not, n_md, n_dec, n_and1, n_and3, n_and7, n_and15, n_and31, n_and63, Nat.mod_eq_of_lt, Nat.zero_add, Nat.add_zero, Nat.zero_mul, Nat.sub_zero, not_false_eq_true, not_true_eq_false, upd_at, upd_ne, hrow, hr, ea] at hy_); subst hy_) | ((with_reducible refine s_pos ?_ ?_); · simp (disch := omega) only [n_lit, n_add, n_mul, n_sub, n_tn, n_ltT, n_ltF, n_leT, n_leF, n_eqT, n_eqF, n_div, n_ixT, n_ixF, n_not, n_md, n_dec, n_and1, n_and3, n_and7, n_and15, n_and31, n_and63, Nat.mod_eq_of_lt, Nat.zero_add, Nat.add_zero, Nat.zero_mul, Nat.sub_zero, not_false_eq_true, not_true_eq_false, upd_at, upd_ne, hrow, hr, ea]) | ((with_reducible refine s_neg ?_ ?_); · simp (disch := omega) only [n_lit, n_add, n_mul, n_sub, n_tn, n_ltT, n_ltF, n_leT, n_leF, n_eqT, n_eqF, n_div, n_ixT, n_ixF, n_not, n_md, n_dec, n_and1, n_and3, n_and7, n_and15, n_and31, n_and63, Nat.mod_eq_of_lt, Nat.zero_add, Nat.add_zero, Nat.zero_mul, Nat.sub_zero, not_false_eq_true, not_true_eq_false, upd_at, upd_ne, hrow, hr, ea])  | (with_reducible refine s_bd o3 ?_) | (with_reducible refine s_bd c4 ?_) | (with_reducible refine s_bd eg ?_) | (with_reducible refine s_bd2 e3' ?_) | (with_reducible refine s_bd eg2' ?_)
        rw [hfin, hu]; rfl
      · rw [if_neg q] at hu
        by_cases q2 : yl = 0
        · rw [if_pos q2] at hu
          subst q2
          repeat first | (with_reducible refine s_nmj1 ?_) | (with_reducible refine s_nmj2 ?_) | ((with_reducible refine s_nm ?_); intro y_ hy_; (try simp (disch := omega) only [n_lit, n_add, n_mul, n_sub, n_tn, n_ltT, n_ltF, n_leT, n_leF, n_eqT, n_eqF, n_div, n_ixT, n_ixF, n_not, n_md, n_dec, n_and1, n_and3, n_and7, n_and15, n_and31, n_and63, Nat.mod_eq_of_lt, Nat.zero_add, Nat.add_zero, Nat.zero_mul, Nat.sub_zero, not_false_eq_true, not_true_eq_false, upd_at, upd_ne, hrow, hr, ea] at hy_); subst hy_) | ((with_reducible refine s_pos ?_ ?_); · simp (disch := omega) only [n_lit, n_add, n_mul, n_sub, n_tn, n_ltT, n_ltF, n_leT, n_leF, n_eqT, n_eqF, n_div, n_ixT, n_ixF, n_not, n_md, n_dec, n_and1, n_and3, n_and7, n_and15, n_and31, n_and63, Nat.mod_eq_of_lt, Nat.zero_add, Nat.add_zero, Nat.zero_mul, Nat.sub_zero, not_false_eq_true, not_true_eq_false, upd_at, upd_ne, hrow, hr, ea]) | ((with_reducible refine s_neg ?_ ?_); · simp (disch := omega) only [n_lit, n_add, n_mul, n_sub, n_tn, n_ltT, n_ltF, n_leT, n_leF, n_eqT, n_eqF, n_div, n_ixT, n_ixF, n_not, n_md, n_dec, n_and1, n_and3, n_and7, n_and15, n_and31, n_and63, Nat.mod_eq_of_lt, Nat.zero_add, Nat.add_zero, Nat.zero_mul, Nat.sub_zero, not_false_eq_true, not_true_eq_false, upd_at, upd_ne, hrow, hr, ea])  | (with_reducible refine s_bd o3 ?_) | (with_reducible refine s_bd c4 ?_) | (with_reducible refine s_bd c3 ?_) | (with_reducible refine s_bd eg ?_) | (with_reducible refine s_bd2 e3' ?_) | (with_reducible refine s_bd eg2' ?_)
          rw [hfin, hu]; rfl
        · rw [if_neg q2] at hu
          repeat first | (with_reducible refine s_nmj1 ?_) | (with_reducible refine s_nmj2 ?_) | ((with_reducible refine s_nm ?_); intro y_ hy_; (try simp (disch := omega) only [n_lit, n_add, n_mul, n_sub, n_tn, n_ltT, n_ltF, n_leT, n_leF, n_eqT, n_eqF, n_div, n_ixT, n_ixF, n_not, n_md, n_dec, n_and1, n_and3, n_and7, n_and15, n_and31, n_and63, Nat.mod_eq_of_lt, Nat.zero_add, Nat.add_zero, Nat.zero_mul, Nat.sub_zero, not_false_eq_true, not_true_eq_false, upd_at, upd_ne, hrow, hr, ea] at hy_); subst hy_) | ((with_reducible refine s_pos ?_ ?_); · simp (disch := omega) only [n_lit, n_add, n_mul, n_sub, n_tn, n_ltT, n_ltF, n_leT, n_leF, n_eqT, n_eqF, n_div, n_ixT, n_ixF, n_not, n_md, n_dec, n_and1, n_and3, n_and7, n_and15, n_and31, n_and63, Nat.mod_eq_of_lt, Nat.zero_add, Nat.add_zero, Nat.zero_mul, Nat.sub_zero, not_false_eq_true, not_true_eq_false, upd_at, upd_ne, hrow, hr, ea]) | ((with_reducible refine s_neg ?_ ?_); · simp (disch := omega) only [n_lit, n_add, n_mul, n_sub, n_tn, n_ltT, n_ltF, n_leT, n_leF, n_eqT, n_eqF, n_div, n_ixT, n_ixF, n_not, n_md, n_dec, n_and1, n_and3, n_and7, n_and15, n_and31, n_and63, Nat.mod_eq_of_lt, Nat.zero_add, Nat.add_zero, Nat.zero_mul, Nat.sub_zero, not_false_eq_true, not_true_eq_false, upd_at, upd_ne, hrow, hr, ea])  | (with_reducible refine s_bd o3 ?_) | (with_reducible refine s_bd c4 ?_) | (with_reducible refine s_bd c3 ?_) | (with_reducible refine s_bd eg ?_) | (with_reducible refine s_bd2 e3' ?_) | (with_reducible refine s_bd eg2' ?_)
          rw [hfin, hu]; rfl
    · obtain ⟨k, q1, q2, q3, q4, q5, q6⟩ : ∃ k, 1 ≤ k ∧ k ≤ 6 ∧ kind = 10 + k ∧ row 220 = M_s (M_rn m) 220 ∧ row 221 = M_s (M_rn m) 221 + NN 1 ∧ row 233 = NN k := by
        rcases e5 with ⟨q, -⟩ | ⟨q, -⟩ | q
        · omega
        · omega
        · exact q
      have hr : row 221 = NN (al + 1) := by rw [q5, ea, n_add]
      subst q3
      unfold f_M_next
      by_cases q : yt = 0
      · subst q
        repeat first | (with_reducible refine s_nmj1 ?_) | (with_reducible refine s_nmj2 ?_) | ((with_reducible refine s_nm ?_); intro y_ hy_; (try simp (disch := omega) only [n_lit, n_add, n_mul, n_sub, n_tn, n_ltT, n_ltF, n_leT, n_leF, n_eqT, n_eqF, n_div, n_ixT, n_ixF, n_not, n_md, n_dec, n_and1, n_and3, n_and7, n_and15, n_and31, n_and63, Nat.mod_eq_of_lt, Nat.zero_add, Nat.add_zero, Nat.zero_mul, Nat.sub_zero, not_false_eq_true, not_true_eq_false, upd_at, upd_ne, hrow, hr, ea, q6] at hy_); subst hy_) | ((with_reducible refine s_pos ?_ ?_); · simp (disch := omega) only [n_lit, n_add, n_mul, n_sub, n_tn, n_ltT, n_ltF, n_leT, n_leF, n_eqT, n_eqF, n_div, n_ixT, n_ixF, n_not, n_md, n_dec, n_and1, n_and3, n_and7, n_and15, n_and31, n_and63, Nat.mod_eq_of_lt, Nat.zero_add, Nat.add_zero, Nat.zero_mul, Nat.sub_zero, not_false_eq_true, not_true_eq_false, upd_at, upd_ne, hrow, hr, ea, q6]) | ((with_reducible refine s_neg ?_ ?_); · simp (disch := omega) only [n_lit, n_add, n_mul, n_sub, n_tn, n_ltT, n_ltF, n_leT, n_leF, n_eqT, n_eqF, n_div, n_ixT, n_ixF, n_not, n_md, n_dec, n_and1, n_and3, n_and7, n_and15, n_and31, n_and63, Nat.mod_eq_of_lt, Nat.zero_add, Nat.add_zero, Nat.zero_mul, Nat.sub_zero, not_false_eq_true, not_true_eq_false, upd_at, upd_ne, hrow, hr, ea, q6])  | (with_reducible refine s_bd o3 ?_) | (with_reducible refine s_bd c4 ?_) | (with_reducible refine s_bd eg ?_) | (with_reducible refine s_bd2 e3' ?_) | (with_reducible refine s_bd eg2' ?_)
        rw [hfin, hrow, ← n_add, ← q6]; rfl
      · by_cases q2 : yl = 0
        · subst q2
          repeat first | (with_reducible refine s_nmj1 ?_) | (with_reducible refine s_nmj2 ?_) | ((with_reducible refine s_nm ?_); intro y_ hy_; (try simp (disch := omega) only [n_lit, n_add, n_mul, n_sub, n_tn, n_ltT, n_ltF, n_leT, n_leF, n_eqT, n_eqF, n_div, n_ixT, n_ixF, n_not, n_md, n_dec, n_and1, n_and3, n_and7, n_and15, n_and31, n_and63, Nat.mod_eq_of_lt, Nat.zero_add, Nat.add_zero, Nat.zero_mul, Nat.sub_zero, not_false_eq_true, not_true_eq_false, upd_at, upd_ne, hrow, hr, ea, q6] at hy_); subst hy_) | ((with_reducible refine s_pos ?_ ?_); · simp (disch := omega) only [n_lit, n_add, n_mul, n_sub, n_tn, n_ltT, n_ltF, n_leT, n_leF, n_eqT, n_eqF, n_div, n_ixT, n_ixF, n_not, n_md, n_dec, n_and1, n_and3, n_and7, n_and15, n_and31, n_and63, Nat.mod_eq_of_lt, Nat.zero_add, Nat.add_zero, Nat.zero_mul, Nat.sub_zero, not_false_eq_true, not_true_eq_false, upd_at, upd_ne, hrow, hr, ea, q6]) | ((with_reducible refine s_neg ?_ ?_); · simp (disch := omega) only [n_lit, n_add, n_mul, n_sub, n_tn, n_ltT, n_ltF, n_leT, n_leF, n_eqT, n_eqF, n_div, n_ixT, n_ixF, n_not, n_md, n_dec, n_and1, n_and3, n_and7, n_and15, n_and31, n_and63, Nat.mod_eq_of_lt, Nat.zero_add, Nat.add_zero, Nat.zero_mul, Nat.sub_zero, not_false_eq_true, not_true_eq_false, upd_at, upd_ne, hrow, hr, ea, q6])  | (with_reducible refine s_bd o3 ?_) | (with_reducible refine s_bd c4 ?_) | (with_reducible refine s_bd c3 ?_) | (with_reducible refine s_bd eg ?_) | (with_reducible refine s_bd2 e3' ?_) | (with_reducible refine s_bd eg2' ?_)
          rw [hfin, hrow, ← n_add, ← q6]; rfl
        · repeat first | (with_reducible refine s_nmj1 ?_) | (with_reducible refine s_nmj2 ?_) | ((with_reducible refine s_nm ?_); intro y_ hy_; (try simp (disch := omega) only [n_lit, n_add, n_mul, n_sub, n_tn, n_ltT, n_ltF, n_leT, n_leF, n_eqT, n_eqF, n_div, n_ixT, n_ixF, n_not, n_md, n_dec, n_and1, n_and3, n_and7, n_and15, n_and31, n_and63, Nat.mod_eq_of_lt, Nat.zero_add, Nat.add_zero, Nat.zero_mul, Nat.sub_zero, not_false_eq_true, not_true_eq_false, upd_at, upd_ne, hrow, hr, ea, q6] at hy_); subst hy_) | ((with_reducible refine s_pos ?_ ?_); · simp (disch := omega) only [n_lit, n_add, n_mul, n_sub, n_tn, n_ltT, n_ltF, n_leT, n_leF, n_eqT, n_eqF, n_div, n_ixT, n_ixF, n_not, n_md, n_dec, n_and1, n_and3, n_and7, n_and15, n_and31, n_and63, Nat.mod_eq_of_lt, Nat.zero_add, Nat.add_zero, Nat.zero_mul, Nat.sub_zero, not_false_eq_true, not_true_eq_false, upd_at, upd_ne, hrow, hr, ea, q6]) | ((with_reducible refine s_neg ?_ ?_); · simp (disch := omega) only [n_lit, n_add, n_mul, n_sub, n_tn, n_ltT, n_ltF, n_leT, n_leF, n_eqT, n_eqF, n_div, n_ixT, n_ixF, n_not, n_md, n_dec, n_and1, n_and3, n_and7, n_and15, n_and31, n_and63, Nat.mod_eq_of_lt, Nat.zero_add, Nat.add_zero, Nat.zero_mul, Nat.sub_zero, not_false_eq_true, not_true_eq_false, upd_at, upd_ne, hrow, hr, ea, q6])  | (with_reducible refine s_bd o3 ?_) | (with_reducible refine s_bd c4 ?_) | (with_reducible refine s_bd c3 ?_) | (with_reducible refine s_bd eg ?_) | (with_reducible refine s_bd2 e3' ?_) | (with_reducible refine s_bd eg2' ?_)
          rw [hfin, hrow, ← n_add, ← q6]; rfl
