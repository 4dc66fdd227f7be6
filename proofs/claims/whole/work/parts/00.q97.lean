/-! TEXT -/
theorem RCd_LOW {pr : T_Pg} {m m' : T_M} {n : Nat} (h : RCd pr m n) (l : LOW (M_cd m) (M_cd m')) : RCd pr m' n := by
  obtain ⟨h1, h2, h3, h4, h5⟩ := h
  refine ⟨h1, h2, (l.1 8 (by omega)).trans h3, h4, fun p hp => ?_⟩
  obtain ⟨c, a, b, d, w1, w2, w3, w4, w5, w6, w7, w8, w9, w10⟩ := h5 p hp
  obtain ⟨x1, x2, x3, x4, x5⟩ := l.2.1 p (by omega)
  exact ⟨c, a, b, d, w1, w2, w3, w4, w5, x1.trans w6, x2.trans w7, x3.trans w8, fun q => x4.trans (w9 q), fun q => x5.trans (w10 q)⟩
theorem RCf_LOW {pr : T_Pg} {m m' : T_M} (h : RCf pr m) (l : LOW (M_cd m) (M_cd m')) : RCf pr m' := by
  obtain ⟨n, sp, lo, hi, z0, z1, z2, tr, se, h0, a, b, c, d, e, f, g, i, j⟩ := h
  exact ⟨n, sp, lo, hi, z0, z1, z2, tr, se, RCd_LOW h0 l, ⟨a.1, (l.1 0 (by omega)).trans a.2.1, a.2.2⟩, ⟨b.1, (l.1 1 (by omega)).trans b.2.1, b.2.2⟩, ⟨c.1, (l.1 2 (by omega)).trans c.2.1, c.2.2⟩, ⟨d.1, (l.1 3 (by omega)).trans d.2.1, d.2.2⟩, ⟨e.1, (l.1 4 (by omega)).trans e.2.1, e.2.2⟩, ⟨f.1, (l.1 5 (by omega)).trans f.2.1, f.2.2⟩, ⟨g.1, (l.1 6 (by omega)).trans g.2.1, g.2.2⟩, ⟨i.1, (l.1 7 (by omega)).trans i.2.1, i.2.2⟩, fun a ha => (j a ha).trans (l.2.2.2 a ha).symm⟩
theorem RAs_LOW {m m' : T_M} (h : RAs m) (l : LOW (M_cd m) (M_cd m')) (e : M_rn m' = M_rn m) : RAs m' := by
  unfold RAs
  rw [e]
  exact ⟨h.1.trans (l.1 0 (by omega)).symm, fun k hk => (h.2 k hk).trans (l.1 (3 + k) (by omega)).symm⟩
theorem RPa_LOW {B : Nat} {pa : T_Pa} {pr : T_Pg} {m m' : T_M} (h : RPa B pa pr m) (l : LOW (M_cd m) (M_cd m')) (e : M_rn m' = M_rn m) : RPa B pa pr m' := by
  obtain ⟨n, sp, lo, hi, z0, z1, z2, tr, pl, nl, pt, nt, pb, fl, nld, fb, nbr, nh, nc, ns, no, tu, po, al, si, sm, dn, dw, hcd, hru, hq, hbk, hou, hta, hdn, hdw, hbd⟩ := h
  obtain ⟨u1, u2, u3, u4, u5, u6, u7⟩ := hru
  refine ⟨n, sp, lo, hi, z0, z1, z2, tr, pl, nl, pt, nt, pb, fl, nld, fb, nbr, nh, nc, ns, no, tu, po, al, si, sm, dn, dw, RCd_LOW hcd l, ?_, ?_⟩
  · unfold RRu
    rw [e]
    exact ⟨u1, ⟨u2.1, (l.1 1 (by omega)).trans u2.2.1, u2.2.2⟩, ⟨u3.1, (l.1 2 (by omega)).trans u3.2.1, u3.2.2⟩, u4, u5, u6, ⟨u7.1, (l.1 6 (by omega)).trans u7.2.1, u7.2.2⟩⟩
  · rw [e]
    exact ⟨hq, hbk, hou, hta, hdn, hdw, hbd⟩
theorem LBR_LOW {pr : T_Pg} {c c' : T_Mc} (h : LBR pr c) (l : LOW c c') : LBR pr c' := by
  obtain ⟨nc, h1, h2, h3, h4⟩ := h
  refine ⟨nc, h1, (l.1 9 (by omega)).trans h2, h3, fun k hk => ?_⟩
  obtain ⟨u1, a, u2, u3, u4⟩ := h4 k hk
  exact ⟨u1.trans (l.2.2.1 k (by omega)).1.symm, a, u2, u3, (l.2.2.1 k (by omega)).2.trans u4⟩
def RDR (rd : T_Rd) (m : T_M) : Prop := WD rd ∧ SD rd ∧ (∃ (cap : Nat) (T : Nat → Nat), Rd_filled rd = NN cap ∧ M_taped (M_tp m) = NN cap ∧ cap ≤ 700 ∧ ∀ j, j < cap → T j < 256 ∧ Rd_tape rd j &&& NN 255 = NN (T j) ∧ M_tape (M_tp m) j = NN (T j)) ∧ Rd_fault rd = M_lastFault (M_lf m) ∧ Rd_faultPlace rd = M_lastPlace (M_lf m)
def mV (m : T_M) (f p : Int32) : T_M := ((M_tape (M_tp m), (0 : Int32)), (M_rd m), (f, p), (M_cd m), (M_rn m), (M_ex m), (M_im m), (M_al m), (M_thrown m))
theorem M_take {pr : T_Pg} {m : T_M} (h : TXT pr m) (f p : Int32) : ∃ W, f_M_takeText (mV m f p) = some W ∧ LW pr (M_cd W) ∧ M_tp W = (M_tape (M_tp m), (0 : Int32)) ∧ M_lf W = (f, p) ∧ M_al W = M_al m ∧ M_thrown W = M_thrown m ∧ M_lines (M_rd W) = Pg_lines pr ∧ M_im W = M_im m := by
  obtain ⟨V, hV⟩ : ∃ V, V = mV m f p := ⟨_, rfl⟩
  have q1 : M_cd V = M_cd m := by rw [hV]; rfl
  have q2 : M_rd V = M_rd m := by rw [hV]; rfl
  have q3 : M_tp V = (M_tape (M_tp m), (0 : Int32)) := by rw [hV]; rfl
  have q4 : M_lf V = (f, p) := by rw [hV]; rfl
  have q5 : M_al V = M_al m := by rw [hV]; rfl
  have q6 : M_thrown V = M_thrown m := by rw [hV]; rfl
  have q7 : M_im V = M_im m := by rw [hV]; rfl
  have hl : M_lines (M_rd V) = Pg_lines pr := by
    rw [q2]
    obtain ⟨sz, nc, ln, -, -, h3, -⟩ := h
    exact h3.2.1.trans h3.1.symm
  have hT : TXT pr V := by unfold TXT; rw [q1, q2]; exact h
  rw [← hV]
  by_cases g : M_lines (M_rd V) = (0 : Int32)
  · obtain ⟨ft, fh, D, c2, e1, e2, e3⟩ := M_take1 g
    obtain ⟨K, hK⟩ : ∃ K, K = fM V (frN (M_number (M_cd V))) ft fh D := ⟨_, rfl⟩
    rw [← hK] at e1 e2
    have k1 : M_number (M_cd K) = frN (M_number (M_cd V)) := by rw [hK]; rfl
    have k2 : M_data (M_cd K) = D := by rw [hK]; rfl
    have k3 : M_tp K = M_tp V := by rw [hK]; rfl
    have k4 : M_lf K = M_lf V := by rw [hK]; rfl
    have k5 : M_al K = M_al V := by rw [hK]; rfl
    have k6 : M_thrown K = M_thrown V := by rw [hK]; rfl
    have k7 : M_im K = M_im V := by rw [hK]; rfl
    have k8 : M_lines (M_rd K) = M_lines (M_rd V) := by rw [hK]; rfl
    refine ⟨sC K c2, e1, ?_, k3.trans q3, k4.trans q4, k5.trans q5, k6.trans q6, k8.trans hl, k7.trans q7⟩
    exact LW_take0 hT (hl.symm.trans g) k1 (fun a ha => by rw [k2]; exact (e3 a ha).1) e2
  · obtain ⟨c2, e1, e2⟩ := M_take0 g
    exact ⟨sC V c2, e1, LW_take hT e2, q3, q4, q5, q6, hl, q7⟩
theorem sim_text {rd : T_Rd} {m : T_M} (hR : RDR rd m) (g qe : Nat → Nat) (xpa : Nat) (tt : T_TT) (pa : T_Pa) (pr df : T_Pg) (a1 : Int32) :
    (∃ r rd' df' m', f_TT_text g qe xpa tt rd pa pr df a1 = some (r, tt, rd', pa, df', xpa, qe 0, g 0) ∧ f_M_text m a1 = some (r, m') ∧ RDR rd' m' ∧ LOW (M_cd m) (M_cd m') ∧ M_rn m' = M_rn m ∧ M_ex m' = M_ex m ∧ M_im m' = M_im m ∧ M_al m' = M_al m ∧ M_thrown m' = 0) ∨
    (∃ r rd' pa' pr' m', f_TT_text g qe xpa tt rd pa pr df a1 = some (r, NN 0, rd', pa', pr', qe 0, g 0, qe 0) ∧ f_M_text m a1 = some (r, m') ∧ RDR rd' m' ∧ RCf pr' m' ∧ RPa 0 pa' pr' m' ∧ RAs m' ∧ LBR pr' (M_cd m') ∧ M_hasImage (M_im m') = NN 0 ∧ M_al m' = M_al m ∧ M_thrown m' = 0) := by
  obtain ⟨hwd, hsd, ⟨cap, T, t1, t2, t3, t4⟩, f1, f2⟩ := id hR
  have hmT : RDR rd (mT m) := hR
  rcases i_cases a1 (cap + 1) (by omega) with h1 | h1 | ⟨n, h1, rfl⟩
  · refine Or.inl ⟨-2, rd, df, mT m, ?_, ?_, hmT, LOW_refl _, rfl, rfl, rfl, rfl, rfl⟩
    · unfold f_TT_text
      exact if_pos h1
    · unfold f_M_text
      exact if_pos h1
  · have x1 : ¬ a1 < (0 : Int32) := fun h => by
      have := Int32.lt_of_lt_of_le (a := a1) (b := 0) (c := NN (cap + 1)) h (by simp (disch := omega) only [n_lit, n_add, n_mul, n_sub, n_tn, n_ltT, n_ltF, n_leT, n_leF, n_eqT, n_eqF, n_div, n_ixT, n_ixF, n_not, n_md, n_dec, n_and1, n_and3, n_and7, n_and15, n_and31, n_and63, Nat.mod_eq_of_lt, Nat.zero_add, Nat.add_zero, Nat.zero_mul, Nat.sub_zero, not_false_eq_true, not_true_eq_false, upd_at, upd_ne])
      exact Int32.not_lt.mpr h1.1 this
    have x2 : ¬ a1 ≤ NN cap := fun h => by
      have := Int32.le_trans h1.1 h
      simp (disch := omega) only [n_lit, n_add, n_mul, n_sub, n_tn, n_ltT, n_ltF, n_leT, n_leF, n_eqT, n_eqF, n_div, n_ixT, n_ixF, n_not, n_md, n_dec, n_and1, n_and3, n_and7, n_and15, n_and31, n_and63, Nat.mod_eq_of_lt, Nat.zero_add, Nat.add_zero, Nat.zero_mul, Nat.sub_zero, not_false_eq_true, not_true_eq_false, upd_at, upd_ne] at this
    refine Or.inl ⟨-2, rd, df, mT m, ?_, ?_, hmT, LOW_refl _, rfl, rfl, rfl, rfl, rfl⟩
    · unfold f_TT_text
      rw [t1]
      exact (if_neg x1).trans (if_neg x2)
    · unfold f_M_text
      rw [t2]
      exact (if_neg x1).trans (if_neg x2)
  · obtain ⟨rd', pr', m3, e1, e2, e3, e4, e5, e6⟩ := read_text (T := T) (n := n) (rd := rd) (m := mT m) df (by omega) (fun j hj => t4 j (by omega)) hwd hsd
    obtain ⟨s1, s2, s3, s4⟩ := e3
    obtain ⟨y1, y2, y3, y4, y5, y6, y7⟩ := e4
    have hwd' : WD rd' := fun k hk => (congrFun s3 k).trans (hwd k hk)
    have hsd' : SD rd' := fun k hk => (congrFun s4 k).trans (hsd k hk)
    have cC : ∀ R, (bd2 (f_Rd_readText rd df (NN n)) fun (v3 : T_Rd) (v4 : T_Pg) => (if (Rd_fault v3) = (0 : Int32) then (bd (f_Pa_begin pa v4) fun (v7 : T_Pa) => (some ((Pg_lines v4), ((0 : Int32)), v3, v7, v4, (qe 0), (g 0), (qe 0)))) else (some ((-1 : Int32), tt, v3, pa, v4, xpa, (qe 0), (g 0))))) = R → f_TT_text g qe xpa tt rd pa pr df (NN n) = R := by
      intro R hR
      rw [← hR]
      unfold f_TT_text
      rw [t1]
      repeat first | (with_reducible refine s_nmj1 ?_) | (with_reducible refine s_nmj2 ?_) | ((with_reducible refine s_nm ?_); intro y_ hy_; (try simp (disch := omega) only [n_lit, n_add, n_mul, n_sub, n_tn, n_ltT, n_ltF, n_leT, n_leF, n_eqT, n_eqF, n_div, n_ixT, n_ixF, n_not, n_md, n_dec, n_and1, n_and3, n_and7, n_and15, n_and31, n_and63, Nat.mod_eq_of_lt, Nat.zero_add, Nat.add_zero, Nat.zero_mul, Nat.sub_zero, not_false_eq_true, not_true_eq_false, upd_at, upd_ne] at hy_); subst hy_) | ((with_reducible refine s_pos ?_ ?_); · simp (disch := omega) only [n_lit, n_add, n_mul, n_sub, n_tn, n_ltT, n_ltF, n_leT, n_leF, n_eqT, n_eqF, n_div, n_ixT, n_ixF, n_not, n_md, n_dec, n_and1, n_and3, n_and7, n_and15, n_and31, n_and63, Nat.mod_eq_of_lt, Nat.zero_add, Nat.add_zero, Nat.zero_mul, Nat.sub_zero, not_false_eq_true, not_true_eq_false, upd_at, upd_ne]) | ((with_reducible refine s_neg ?_ ?_); · simp (disch := omega) only [n_lit, n_add, n_mul, n_sub, n_tn, n_ltT, n_ltF, n_leT, n_leF, n_eqT, n_eqF, n_div, n_ixT, n_ixF, n_not, n_md, n_dec, n_and1, n_and3, n_and7, n_and15, n_and31, n_and63, Nat.mod_eq_of_lt, Nat.zero_add, Nat.add_zero, Nat.zero_mul, Nat.sub_zero, not_false_eq_true, not_true_eq_false, upd_at, upd_ne]) 
      rfl
    have e2' : f_M_readText ((M_tp m), (M_rd m), (M_lf m), (M_cd m), (M_rn m), (M_ex m), (M_im m), (M_al m), (0 : Int32)) (NN n) = some m3 := e2
    rcases e6 with ⟨z1, z2, z3, z4⟩ | ⟨f, p, z1, z2, z3, z4, z5, z6, z7⟩
    · obtain ⟨W, w1, w2, w3, w4, w5, w6, w7, w8⟩ := M_take z4 (M_fault (M_rd m3)) (-1)
      obtain ⟨pa', m4, b1, b2, b3, b4, b5, b6, b7, b8, b9, b10, b11, b12⟩ := begins_all w2 pa
      have w1' : f_M_takeText (((M_tape (M_tp m3)), (0 : Int32)), (M_rd m3), ((M_fault (M_rd m3)), (-1 : Int32)), (M_cd m3), (M_rn m3), (M_ex m3), (M_im m3), (M_al m3), (M_thrown m3)) = some W := w1
      obtain ⟨m5, hm5⟩ : ∃ m5 : T_M, m5 = ((M_tp m4), (M_rd m4), (M_lf m4), (M_cd m4), (M_rn m4), (M_ex m4), ((M_image (M_im m4)), (0 : Int32)), (M_al m4), (M_thrown m4)) := ⟨_, rfl⟩
      have c5 : M_cd m5 = M_cd m4 := by rw [hm5]; rfl
      have r5 : M_rn m5 = M_rn m4 := by rw [hm5]; rfl
      have tp5 : M_tp m5 = M_tp m4 := by rw [hm5]; rfl
      have lf5 : M_lf m5 = M_lf m4 := by rw [hm5]; rfl
      have L5 : LOW (M_cd m4) (M_cd m5) := by rw [c5]; exact LOW_refl _
      refine Or.inr ⟨Pg_lines pr', rd', pa', pr', m5, cC _ ?_, ?_, ⟨hwd', hsd', ⟨0, fun _ => 0, s2, ?_, by omega, fun j hj => by omega⟩, ?_, ?_⟩, RCf_LOW b3 L5, RPa_LOW b4 L5 r5, RAs_LOW b5 L5 r5, ?_, by rw [hm5]; rfl, ?_, ?_⟩
      · refine s_bd2 e1 ?_
        repeat first | (with_reducible refine s_nmj1 ?_) | (with_reducible refine s_nmj2 ?_) | ((with_reducible refine s_nm ?_); intro y_ hy_; (try simp (disch := omega) only [n_lit, n_add, n_mul, n_sub, n_tn, n_ltT, n_ltF, n_leT, n_leF, n_eqT, n_eqF, n_div, n_ixT, n_ixF, n_not, n_md, n_dec, n_and1, n_and3, n_and7, n_and15, n_and31, n_and63, Nat.mod_eq_of_lt, Nat.zero_add, Nat.add_zero, Nat.zero_mul, Nat.sub_zero, not_false_eq_true, not_true_eq_false, upd_at, upd_ne, z1] at hy_); subst hy_) | ((with_reducible refine s_pos ?_ ?_); · simp (disch := omega) only [n_lit, n_add, n_mul, n_sub, n_tn, n_ltT, n_ltF, n_leT, n_leF, n_eqT, n_eqF, n_div, n_ixT, n_ixF, n_not, n_md, n_dec, n_and1, n_and3, n_and7, n_and15, n_and31, n_and63, Nat.mod_eq_of_lt, Nat.zero_add, Nat.add_zero, Nat.zero_mul, Nat.sub_zero, not_false_eq_true, not_true_eq_false, upd_at, upd_ne, z1]) | ((with_reducible refine s_neg ?_ ?_); · simp (disch := omega) only [n_lit, n_add, n_mul, n_sub, n_tn, n_ltT, n_ltF, n_leT, n_leF, n_eqT, n_eqF, n_div, n_ixT, n_ixF, n_not, n_md, n_dec, n_and1, n_and3, n_and7, n_and15, n_and31, n_and63, Nat.mod_eq_of_lt, Nat.zero_add, Nat.add_zero, Nat.zero_mul, Nat.sub_zero, not_false_eq_true, not_true_eq_false, upd_at, upd_ne, z1])  | (with_reducible refine s_bd b1 ?_)
        rfl
      · unfold f_M_text
        rw [t2]
        have hlines : M_lines (M_rd m4) = Pg_lines pr' := by rw [b8]; exact w7
        repeat first | (with_reducible refine s_nmj1 ?_) | (with_reducible refine s_nmj2 ?_) | ((with_reducible refine s_nm ?_); intro y_ hy_; (try simp (disch := omega) only [n_lit, n_add, n_mul, n_sub, n_tn, n_ltT, n_ltF, n_leT, n_leF, n_eqT, n_eqF, n_div, n_ixT, n_ixF, n_not, n_md, n_dec, n_and1, n_and3, n_and7, n_and15, n_and31, n_and63, Nat.mod_eq_of_lt, Nat.zero_add, Nat.add_zero, Nat.zero_mul, Nat.sub_zero, not_false_eq_true, not_true_eq_false, upd_at, upd_ne, z2] at hy_); subst hy_) | ((with_reducible refine s_pos ?_ ?_); · simp (disch := omega) only [n_lit, n_add, n_mul, n_sub, n_tn, n_ltT, n_ltF, n_leT, n_leF, n_eqT, n_eqF, n_div, n_ixT, n_ixF, n_not, n_md, n_dec, n_and1, n_and3, n_and7, n_and15, n_and31, n_and63, Nat.mod_eq_of_lt, Nat.zero_add, Nat.add_zero, Nat.zero_mul, Nat.sub_zero, not_false_eq_true, not_true_eq_false, upd_at, upd_ne, z2]) | ((with_reducible refine s_neg ?_ ?_); · simp (disch := omega) only [n_lit, n_add, n_mul, n_sub, n_tn, n_ltT, n_ltF, n_leT, n_leF, n_eqT, n_eqF, n_div, n_ixT, n_ixF, n_not, n_md, n_dec, n_and1, n_and3, n_and7, n_and15, n_and31, n_and63, Nat.mod_eq_of_lt, Nat.zero_add, Nat.add_zero, Nat.zero_mul, Nat.sub_zero, not_false_eq_true, not_true_eq_false, upd_at, upd_ne, z2])  | (with_reducible refine s_bd e2' ?_)
        rw [z2] at w1'
        refine s_bd w1' ?_
        refine s_bd b2 ?_
        rw [hlines, hm5]
      · rw [tp5, b7, w3]; rfl
      · rw [lf5, b9, w4]; exact z1.trans z2.symm
      · rw [lf5, b9, w4]; exact z3
      · rw [c5, b6]; exact w2.1
      · rw [hm5]; exact b11.trans (w5.trans y6)
      · rw [hm5]; exact b12.trans (w6.trans y7)
    · refine Or.inl ⟨-1, rd', pr', mV m3 (M_fault (M_rd m3)) (M_faultPlace (M_rd m3)), cC _ ?_, ?_, ⟨hwd', hsd', ⟨0, fun _ => 0, s2, rfl, by omega, fun j hj => by omega⟩, z4.trans z5.symm, z6.trans z7.symm⟩, e5, y3, y4, y5, y6, y7⟩
      · refine s_bd2 e1 ?_
        have : ¬ Rd_fault rd' = (0 : Int32) := fun h => z1 (n_inj (by omega) (by omega) (z4.symm.trans h))
        exact if_neg this
      · unfold f_M_text
        rw [t2]
        have hne : ¬ M_fault (M_rd m3) = (0 : Int32) := fun h => z1 (n_inj (by omega) (by omega) (z5.symm.trans h))
        repeat first | (with_reducible refine s_nmj1 ?_) | (with_reducible refine s_nmj2 ?_) | ((with_reducible refine s_nm ?_); intro y_ hy_; (try simp (disch := omega) only [n_lit, n_add, n_mul, n_sub, n_tn, n_ltT, n_ltF, n_leT, n_leF, n_eqT, n_eqF, n_div, n_ixT, n_ixF, n_not, n_md, n_dec, n_and1, n_and3, n_and7, n_and15, n_and31, n_and63, Nat.mod_eq_of_lt, Nat.zero_add, Nat.add_zero, Nat.zero_mul, Nat.sub_zero, not_false_eq_true, not_true_eq_false, upd_at, upd_ne] at hy_); subst hy_) | ((with_reducible refine s_pos ?_ ?_); · simp (disch := omega) only [n_lit, n_add, n_mul, n_sub, n_tn, n_ltT, n_ltF, n_leT, n_leF, n_eqT, n_eqF, n_div, n_ixT, n_ixF, n_not, n_md, n_dec, n_and1, n_and3, n_and7, n_and15, n_and31, n_and63, Nat.mod_eq_of_lt, Nat.zero_add, Nat.add_zero, Nat.zero_mul, Nat.sub_zero, not_false_eq_true, not_true_eq_false, upd_at, upd_ne]) | ((with_reducible refine s_neg ?_ ?_); · simp (disch := omega) only [n_lit, n_add, n_mul, n_sub, n_tn, n_ltT, n_ltF, n_leT, n_leF, n_eqT, n_eqF, n_div, n_ixT, n_ixF, n_not, n_md, n_dec, n_and1, n_and3, n_and7, n_and15, n_and31, n_and63, Nat.mod_eq_of_lt, Nat.zero_add, Nat.add_zero, Nat.zero_mul, Nat.sub_zero, not_false_eq_true, not_true_eq_false, upd_at, upd_ne])  | (with_reducible refine s_bd e2' ?_)
        refine (if_neg hne).trans ?_
        exact if_neg hne
