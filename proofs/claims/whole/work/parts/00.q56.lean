/-! an ALARM by nothing -/
theorem mF0 {r : Nat → Int32} {ga : Nat} (hg : ga < 1000) (h : r 223 = NN ga) (j : Nat) : mF r 0 j = r j := by
  simp only [mF]
  by_cases q : j = 223
  · subst q; rw [upd_at rfl, if_pos (by rw [h]; simp (disch := omega) only [n_leT]), h]
  · rw [upd_ne q]
    by_cases q2 : j = 230
    · subst q2; rw [upd_at rfl]; exact Int32.add_zero _
    · rw [upd_ne q2]
set_option maxHeartbeats 4000000 in
theorem sim_turn7 {B : Nat} {pa : T_Pa} {pr : T_Pg} {v : T_M} (h : RPa B pa pr v) (hB : B < 1000000) (hdn : Pa_done pa = NN 0) (hdw : Pa_down pa = NN 0) :
    ∃ pa' row, f_Pa_alarmByNothing pa = some pa' ∧ f_M_turns v (NN 7) = some (NN 1, mS v row) ∧ RPa (B + 1) pa' pr (mS v row) ∧ row 219 = M_s (M_rn v) 219 + NN 1 := by
  obtain ⟨n, sp, lo, hi, z0, z1, z2, tr, pl, nl, pt, nt, pb, fl, nld, fb, nbr, nh, nc, ns, no, tu, po, al, si, sm, dn, dw, hcd, hru, hq, hbk, hou, hta, ⟨d1, d2, d3⟩, ⟨w1, w2, w3⟩, ⟨x1, x2, x3, x4, x5, x6, x7⟩⟩ := h
  have hdn0 : dn = 0 := n_inj (by omega) (by omega) (d1.symm.trans hdn)
  have hdw0 : dw = 0 := n_inj (by omega) (by omega) (w1.symm.trans hdw)
  subst hdn0
  subst hdw0
  have x8 := x7 rfl
  obtain ⟨⟨r1, r2, r3⟩, ⟨r4, r5, r6⟩, ⟨r7, r8, r9⟩, ⟨s1, s2, s3⟩, ⟨s4, s5, s6⟩, ⟨s7, s8, s9⟩, ⟨u1, u2, u3, u4⟩⟩ := id hru
  obtain ⟨hL, hT, hLd, hBr, hHe, hle⟩ := id hq
  obtain ⟨⟨a1, a2, a3⟩, ⟨b1, b2, b3⟩, -⟩ := id hL
  obtain ⟨⟨e1, e2, e3⟩, ⟨g1, g2, g3⟩, -⟩ := id hT
  obtain ⟨⟨t1, t2⟩, ⟨t3, t4⟩, ⟨t5, t6⟩, ⟨t7, t8⟩, ⟨t9, t10⟩, -, t14, t15, t16, -⟩ := id hta
  have hts : ∀ j, j ≠ 219 → tuS v j = M_s (M_rn v) j := fun j hj => upd_ne hj
  have ht219 : tuS v 219 = M_s (M_rn v) 219 + NN 1 := upd_at rfl
  have b2' : M_s (M_rn v) 2 = NN nl := b2
  have g2' : M_s (M_rn v) 3 = NN nt := g2
  have h0 := M_isOver0 d2 w2
  obtain ⟨ld, tr', q, ta, dw', row2, eR, eAl, hQ2, hT2, h227, hdw1, hdwz, h233, hF1, hF2⟩ := sim_raise (pa := pa1 pa) (v := mS v (tuS v)) (pb := pb) (tu := tu + 1) (po := po) (al := al) (si := si) (sm := sm) (tr := tr) (k := 7) (nl := nl) (nt := nt) (e := NN 0) (by omega) (if_pos (by omega))
        (RMk_congr (by decide) (RMk_of hL) (fun j h1 h2 => hts j (by omega))) (RMk_congr (by decide) (RMk_of hT) (fun j h1 h2 => hts j (by omega))) (RBk_congr hbk (fun j h1 h2 => hts j (by omega)))
        (RTa_up hta ht219 ((hts 228 (by omega)).trans t14.symm) ((hts 229 (by omega)).trans (t15.symm.trans (Int32.add_zero _).symm)) (fun j hj => hts j (by omega)))
        (by omega) x8 u4 u1 u2 ((hts 227 (by omega)).trans w2) b1 g1
  have hG : ∀ j, (146 ≤ j ∧ j < 221) ∨ (222 < j ∧ j < 227) ∨ (227 < j ∧ j < 233) ∨ 265 ≤ j → j ≠ 219 → row2 j = M_s (M_rn v) j := fun j h1 h2 => (hF2 j h1).trans (hts j h2)
  rw [← b2', ← g2'] at eAl
  have eMm := M_turn7 (v := v) h0 eAl (nl := 0) (nt := 0) hQ2.1.2.1.2.1 hQ2.2.1.2.1.2.1 (Nat.le_refl 0)
  obtain ⟨ga, hga1, hga2, hga3⟩ := hT2.2.2.2.2.2.1
  have hm : ∀ j, mF row2 (0 - 0) j = row2 j := mF0 (by omega : ga < 1000) hga3
  refine ⟨(Pa_rules pa, ld, tr', Pa_point pa, q, Pa_outside pa, ta, Pa_done pa, NN dw'), mF row2 (0 - 0), ?_, eMm, ?_, ?_⟩
  · unfold f_Pa_alarmByNothing
    repeat first | (with_reducible refine s_nmj1 ?_) | (with_reducible refine s_nmj2 ?_) | ((with_reducible refine s_nm ?_); intro y_ hy_; (try simp (disch := omega) only [n_lit, n_add, n_mul, n_sub, n_tn, n_ltT, n_ltF, n_leT, n_leF, n_eqT, n_eqF, n_div, n_ixT, n_ixF, n_not, n_md, n_dec, n_and1, n_and3, n_and7, n_and15, n_and31, n_and63, Nat.mod_eq_of_lt, Nat.zero_add, Nat.add_zero, Nat.zero_mul, Nat.sub_zero, not_false_eq_true, not_true_eq_false, upd_at, upd_ne, d1, w1] at hy_); subst hy_) | ((with_reducible refine s_pos ?_ ?_); · simp (disch := omega) only [n_lit, n_add, n_mul, n_sub, n_tn, n_ltT, n_ltF, n_leT, n_leF, n_eqT, n_eqF, n_div, n_ixT, n_ixF, n_not, n_md, n_dec, n_and1, n_and3, n_and7, n_and15, n_and31, n_and63, Nat.mod_eq_of_lt, Nat.zero_add, Nat.add_zero, Nat.zero_mul, Nat.sub_zero, not_false_eq_true, not_true_eq_false, upd_at, upd_ne, d1, w1]) | ((with_reducible refine s_neg ?_ ?_); · simp (disch := omega) only [n_lit, n_add, n_mul, n_sub, n_tn, n_ltT, n_ltF, n_leT, n_leF, n_eqT, n_eqF, n_div, n_ixT, n_ixF, n_not, n_md, n_dec, n_and1, n_and3, n_and7, n_and15, n_and31, n_and63, Nat.mod_eq_of_lt, Nat.zero_add, Nat.add_zero, Nat.zero_mul, Nat.sub_zero, not_false_eq_true, not_true_eq_false, upd_at, upd_ne, d1, w1])  | ((with_reducible refine s_bd (Eq.trans ?_ eR) ?_); · rfl)
    rfl
  · exact ⟨n, sp, lo, hi, z0, z1, z2, tr, pb, 0, pb, 0, pb, 0, 0, 0, 0, 0, 0, ns, no, tu + 1, po, al + 1, si + 1, sm, 0, dw', hcd, hru, RTQ_congr hQ2 (fun j hj => hm j), RBk_congr hbk (fun j hj hj2 => (hm j).trans ((hF1 j hj (by omega)).trans (hts j (by omega)))), ROu_congr hou (fun j hj => (hm j).trans (hG j (by omega) (by omega))),
        RTa_congr hT2 (fun j hj => hm j), ⟨hdn, (hm _).trans ((hG 226 (by omega) (by omega)).trans d2), by omega⟩, ⟨rfl, (hm _).trans h227, hdw1⟩, by omega⟩
  · exact (hm _).trans (hT2.1.2.trans (by rw [t2, n_add]))
