/-! bits that are loosened; rows that are copied; images -/
theorem C_loosen (v : T_St) : ∃ m o, f_St_loosen v = some (St_registers v, St_floats v, m, o, St_place v, St_steps v) ∧ ∀ k, k < 8 → m k = NN 0 ∧ o k = NN 0 := by
  obtain ⟨s', e, h⟩ := loop_from (fun n i (s : (Nat → Int32) × (Nat → Int32)) => f_St_loosen_L2 (fun f4 f5 => some ((St_registers v), (St_floats v), f4, f5, (St_place v), (St_steps v))) n i s.1 s.2)
    (fun s => some ((St_registers v), (St_floats v), s.1, s.2, (St_place v), (St_steps v))) (fun x s => ∀ k, k < x → s.1 k = NN 0 ∧ s.2 k = NN 0) 0 8 (n := LF) (s := (St_stuckMask v, St_stuckOnes v))
    (by
      intro n x s _ hx hI
      refine ⟨(upd s.1 x (NN 0), upd s.2 x (NN 0)), ?_, ?_⟩
      · simp only [f_St_loosen_L2]
        simp (disch := omega) only [nm, bd_some, bd2_some, bd3_some, n_lit, n_add, n_mul, n_sub, n_tn, n_ltT, n_ltF, n_leT, n_leF, n_eqT, n_eqF, n_div, n_ixT, n_ixF, n_not, n_md, n_dec, n_and1, n_and3, n_and7, n_and15, n_and31, n_and63, Nat.mod_eq_of_lt, Nat.zero_add, Nat.add_zero, Nat.zero_mul, Nat.sub_zero, not_false_eq_true, not_true_eq_false, if_pos, if_neg, false_or, or_false, not_false_eq_true, Nat.not_le, Nat.not_lt, if_true, if_false, Nat.zero_add, Nat.add_zero, Nat.zero_mul, Nat.sub_zero, upd_at, upd_ne]
      · intro k hk
        by_cases q : k = x
        · subst q; exact ⟨upd_at rfl, upd_at rfl⟩
        · exact ⟨(upd_ne q).trans (hI k (by omega)).1, (upd_ne q).trans (hI k (by omega)).2⟩)
    (fun n s _ => by
      simp only [f_St_loosen_L2]
      simp (disch := omega) only [nm, bd_some, bd2_some, bd3_some, n_lit, n_add, n_mul, n_sub, n_tn, n_ltT, n_ltF, n_leT, n_leF, n_eqT, n_eqF, n_div, n_ixT, n_ixF, n_not, n_md, n_dec, n_and1, n_and3, n_and7, n_and15, n_and31, n_and63, Nat.mod_eq_of_lt, Nat.zero_add, Nat.add_zero, Nat.zero_mul, Nat.sub_zero, not_false_eq_true, not_true_eq_false, if_pos, if_neg, false_or, or_false, not_false_eq_true, Nat.not_le, Nat.not_lt, if_true, if_false, Nat.zero_add, Nat.add_zero, Nat.zero_mul, Nat.sub_zero, upd_at, upd_ne]
      ) (by omega) (lf_big (by omega)) (fun k hk => by omega)
  exact ⟨s'.1, s'.2, e, h⟩
def lsRow (s : Nat → Int32) : Nat → Int32 := fun j => if 54 ≤ j ∧ j < 86 then NN 0 else s j
theorem M_loose1 {m : T_M} {r : Int32} (hr : f_M_stuck (mT m) = some r) : f_M_loose m = some (r, mT (mS m (lsRow (M_s (M_rn m))))) := by
  obtain ⟨s', e, h⟩ := loop_from (f_M_loose_L12 (fun f5 => some (r, ((M_tp m), (M_rd m), (M_lf m), (M_cd m), (f5, (M_spanNow (M_rn m)), (M_sizeNow (M_rn m)), (M_placeThen (M_rn m))), (M_ex m), (M_im m), (M_al m), (0 : Int32)))))
    (fun f5 => some (r, mT (mS m f5))) (fun x s => ∀ j, s j = if (54 ≤ j ∧ j < 54 + x) ∨ (70 ≤ j ∧ j < 70 + x) then NN 0 else M_s (M_rn m) j) 0 16 (n := LF) (s := M_s (M_rn m))
    (by
      intro n x s _ hx hI
      refine ⟨upd (upd s (54 + x) (NN 0)) (70 + x) (NN 0), ?_, ?_⟩
      · simp only [f_M_loose_L12]
        simp (disch := omega) only [nm, bd_some, bd2_some, bd3_some, n_lit, n_add, n_mul, n_sub, n_tn, n_ltT, n_ltF, n_leT, n_leF, n_eqT, n_eqF, n_div, n_ixT, n_ixF, n_not, n_md, n_dec, n_and1, n_and3, n_and7, n_and15, n_and31, n_and63, Nat.mod_eq_of_lt, Nat.zero_add, Nat.add_zero, Nat.zero_mul, Nat.sub_zero, not_false_eq_true, not_true_eq_false, if_pos, if_neg, false_or, or_false, not_false_eq_true, Nat.not_le, Nat.not_lt, if_true, if_false, Nat.zero_add, Nat.add_zero, Nat.zero_mul, Nat.sub_zero, upd_at, upd_ne]
      · intro j
        by_cases q : j = 70 + x
        · rw [upd_at q, if_pos (by omega)]
        · rw [upd_ne q]
          by_cases q2 : j = 54 + x
          · rw [upd_at q2, if_pos (by omega)]
          · rw [upd_ne q2, hI j]
            have : ((54 ≤ j ∧ j < 54 + (x + 1)) ∨ (70 ≤ j ∧ j < 70 + (x + 1))) ↔ ((54 ≤ j ∧ j < 54 + x) ∨ (70 ≤ j ∧ j < 70 + x)) := by omega
            simp only [this])
    (fun n s _ => by
      simp only [f_M_loose_L12]
      simp (disch := omega) only [nm, bd_some, bd2_some, bd3_some, n_lit, n_add, n_mul, n_sub, n_tn, n_ltT, n_ltF, n_leT, n_leF, n_eqT, n_eqF, n_div, n_ixT, n_ixF, n_not, n_md, n_dec, n_and1, n_and3, n_and7, n_and15, n_and31, n_and63, Nat.mod_eq_of_lt, Nat.zero_add, Nat.add_zero, Nat.zero_mul, Nat.sub_zero, not_false_eq_true, not_true_eq_false, if_pos, if_neg, false_or, or_false, not_false_eq_true, Nat.not_le, Nat.not_lt, if_true, if_false, Nat.zero_add, Nat.add_zero, Nat.zero_mul, Nat.sub_zero, upd_at, upd_ne]
      rfl) (by omega) (lf_big (by omega)) (fun j => by rw [if_neg (by omega)])
  have hs : s' = lsRow (M_s (M_rn m)) := funext fun j => by
    rw [h j]
    have : ((54 ≤ j ∧ j < 54 + 16) ∨ (70 ≤ j ∧ j < 70 + 16)) ↔ (54 ≤ j ∧ j < 86) := by omega
    simp only [this, lsRow]
  unfold f_M_loose
  simp only [mT] at hr
  with_reducible refine s_bd hr ?_
  rw [← hs]
  exact e
theorem and0 (x : Int32) : x &&& NN 0 = NN 0 := by
  apply Int32.toBitVec_inj.mp
  rw [Int32.toBitVec_and]
  exact BitVec.and_zero
theorem RSt_loose {w : Nat} {st : T_St} {s f g : Nat → Int32} {pl n : Nat} (hw : w < 2) (h : RSt w st s pl n) (hf : ∀ k, k < 8 → f k = NN 0 ∧ g k = NN 0) : RSt w (St_registers st, St_floats st, f, g, St_place st, St_steps st) (lsRow s) pl n := by
  obtain ⟨⟨a1, a2, a3⟩, ⟨b1, b2, b3⟩, c1, c2, c3, c4, c5⟩ := h
  refine ⟨⟨a1, ?_, a3⟩, ⟨b1, ?_, b3⟩, ?_, ?_, ?_, ?_, ?_⟩
  · simp only [lsRow]; rw [if_neg (by omega), a2]
  · simp only [lsRow]; rw [if_neg (by omega), b2]
  · intro k hk; simp only [lsRow]; rw [if_neg (by omega), c1 k hk]; rfl
  · intro k hk; simp only [lsRow]; rw [if_neg (by omega), c2 k hk]; rfl
  · intro k hk; simp only [lsRow]; rw [if_pos (by omega)]; exact (hf k hk).1.symm
  · intro k hk; simp only [lsRow]; rw [if_pos (by omega)]; exact (hf k hk).2.symm
  · intro k hk
    simp only [St_registers_mk, St_floats_mk, St_stuckMask_mk, St_stuckOnes_mk, St_place_mk, St_steps_mk]
    rw [(hf k hk).1, (hf k hk).2]
    exact ⟨and0 _, and0 _⟩
theorem sim_loose {B : Nat} {pa : T_Pa} {pr : T_Pg} {m : T_M} (h : RPa B pa pr m) (tt : T_TT) :
    ∃ r pa' row, f_TT_loose tt pa = some (r, pa') ∧ f_M_loose m = some (r, mT (mS m row)) ∧ RPa B pa' pr (mS m row) := by
  obtain ⟨n, sp, lo, hi', z0, z1, z2, tr, pl, nl, pt, nt, pb, fl, nld, fb, nbr, nh, nc, ns, no, tu, po, al, si, sm, dn, dw, hcd, hru, hq, hbk, hou, hta, hdn, hdw, hbd⟩ := h
  obtain ⟨hL, hT, hLd, hBr, hHe, hle⟩ := id hq
  obtain ⟨r, e1, e2⟩ := stuck_same (m := mT m) (RMk_of hL) (RMk_of hT)
  obtain ⟨f1, g1, e3, e4⟩ := C_loosen (Pa_leader pa)
  obtain ⟨f2, g2, e5, e6⟩ := C_loosen (Pa_trailer pa)
  have hi : ∀ j, ¬ (54 ≤ j ∧ j < 86) → lsRow (M_s (M_rn m)) j = M_s (M_rn m) j := fun j hj => if_neg hj
  have hQ : RTQ (St_registers (Pa_leader pa), St_floats (Pa_leader pa), f1, g1, St_place (Pa_leader pa), St_steps (Pa_leader pa)) (St_registers (Pa_trailer pa), St_floats (Pa_trailer pa), f2, g2, St_place (Pa_trailer pa), St_steps (Pa_trailer pa)) (Pa_queues pa) (lsRow (M_s (M_rn m))) pl nl pt nt fl nld fb nbr nh nc :=
    ⟨RSt_loose (by decide) hL e4, RSt_loose (by decide) hT e6, RLd_congr hLd (fun j hj hj2 => hi j (by omega)), RBr_congr hBr (fun j hj hj2 => hi j (by omega)), RHe_congr hHe (fun j hj hj2 => hi j (by omega)), hle⟩
  refine ⟨r, (Pa_rules pa, (St_registers (Pa_leader pa), St_floats (Pa_leader pa), f1, g1, St_place (Pa_leader pa), St_steps (Pa_leader pa)), (St_registers (Pa_trailer pa), St_floats (Pa_trailer pa), f2, g2, St_place (Pa_trailer pa), St_steps (Pa_trailer pa)), Pa_point pa, Pa_queues pa, Pa_outside pa, Pa_tally pa, Pa_done pa, Pa_down pa), lsRow (M_s (M_rn m)), ?_, M_loose1 e2, ?_⟩
  · unfold f_TT_loose
    repeat first | (with_reducible refine s_nmj1 ?_) | (with_reducible refine s_nmj2 ?_) | ((with_reducible refine s_nm ?_); intro y_ hy_; (try simp (disch := omega) only [n_lit, n_add, n_mul, n_sub, n_tn, n_ltT, n_ltF, n_leT, n_leF, n_eqT, n_eqF, n_div, n_ixT, n_ixF, n_not, n_md, n_dec, n_and1, n_and3, n_and7, n_and15, n_and31, n_and63, Nat.mod_eq_of_lt, Nat.zero_add, Nat.add_zero, Nat.zero_mul, Nat.sub_zero, not_false_eq_true, not_true_eq_false, upd_at, upd_ne] at hy_); subst hy_) | ((with_reducible refine s_pos ?_ ?_); · simp (disch := omega) only [n_lit, n_add, n_mul, n_sub, n_tn, n_ltT, n_ltF, n_leT, n_leF, n_eqT, n_eqF, n_div, n_ixT, n_ixF, n_not, n_md, n_dec, n_and1, n_and3, n_and7, n_and15, n_and31, n_and63, Nat.mod_eq_of_lt, Nat.zero_add, Nat.add_zero, Nat.zero_mul, Nat.sub_zero, not_false_eq_true, not_true_eq_false, upd_at, upd_ne]) | ((with_reducible refine s_neg ?_ ?_); · simp (disch := omega) only [n_lit, n_add, n_mul, n_sub, n_tn, n_ltT, n_ltF, n_leT, n_leF, n_eqT, n_eqF, n_div, n_ixT, n_ixF, n_not, n_md, n_dec, n_and1, n_and3, n_and7, n_and15, n_and31, n_and63, Nat.mod_eq_of_lt, Nat.zero_add, Nat.add_zero, Nat.zero_mul, Nat.sub_zero, not_false_eq_true, not_true_eq_false, upd_at, upd_ne])  | (with_reducible refine s_bd e1 ?_) | (with_reducible refine s_bd e3 ?_) | (with_reducible refine s_bd e5 ?_)
    rfl
  · exact ⟨n, sp, lo, hi', z0, z1, z2, tr, pl, nl, pt, nt, pb, fl, nld, fb, nbr, nh, nc, ns, no, tu, po, al, si, sm, dn, dw, RCd_mS _ hcd, RRu_mS _ hru, hQ,
      RBk_congr hbk (fun j hj hj2 => hi j (by omega)), ROu_congr hou (fun j hj => hi j (by omega)), RTa_congr hta (fun j hj => hi j (by omega)), ⟨hdn.1, (hi 226 (by omega)).trans hdn.2.1, hdn.2.2⟩, ⟨hdw.1, (hi 227 (by omega)).trans hdw.2.1, hdw.2.2⟩, hbd⟩
theorem M_copies1 (a b : Nat → Int32) : ∃ g, f_M_copies a b = some g ∧ ∀ j, j < 314 → g j = a j := by
  obtain ⟨s', e, h⟩ := loop_from (f_M_copies_L2 a (fun f3 => some f3)) (fun f3 => some f3) (fun x s => ∀ j, j < x → s j = a j) 0 314 (n := LF) (s := b)
    (by
      intro n x s _ hx hI
      refine ⟨upd s x (a x), ?_, ?_⟩
      · simp only [f_M_copies_L2]
        simp (disch := omega) only [nm, bd_some, bd2_some, bd3_some, n_lit, n_add, n_mul, n_sub, n_tn, n_ltT, n_ltF, n_leT, n_leF, n_eqT, n_eqF, n_div, n_ixT, n_ixF, n_not, n_md, n_dec, n_and1, n_and3, n_and7, n_and15, n_and31, n_and63, Nat.mod_eq_of_lt, Nat.zero_add, Nat.add_zero, Nat.zero_mul, Nat.sub_zero, not_false_eq_true, not_true_eq_false, if_pos, if_neg, false_or, or_false, not_false_eq_true, Nat.not_le, Nat.not_lt, if_true, if_false, Nat.zero_add, Nat.add_zero, Nat.zero_mul, Nat.sub_zero, upd_at, upd_ne]
      · intro j hj
        by_cases q : j = x
        · subst q; exact upd_at rfl
        · exact (upd_ne q).trans (hI j (by omega)))
    (fun n s _ => by
      simp only [f_M_copies_L2]
      simp (disch := omega) only [nm, bd_some, bd2_some, bd3_some, n_lit, n_add, n_mul, n_sub, n_tn, n_ltT, n_ltF, n_leT, n_leF, n_eqT, n_eqF, n_div, n_ixT, n_ixF, n_not, n_md, n_dec, n_and1, n_and3, n_and7, n_and15, n_and31, n_and63, Nat.mod_eq_of_lt, Nat.zero_add, Nat.add_zero, Nat.zero_mul, Nat.sub_zero, not_false_eq_true, not_true_eq_false, if_pos, if_neg, false_or, or_false, not_false_eq_true, Nat.not_le, Nat.not_lt, if_true, if_false, Nat.zero_add, Nat.add_zero, Nat.zero_mul, Nat.sub_zero, upd_at, upd_ne]
      ) (by omega) (lf_big (by omega)) (fun j hj => by omega)
  exact ⟨s', e, h⟩
/-- rows that are the same where they are read -/
theorem RPa_row {B : Nat} {pa : T_Pa} {pr : T_Pg} {m : T_M} {r : Nat → Int32} (h : RPa B pa pr m) (e : ∀ j, j < 314 → r j = M_s (M_rn m) j) : RPa B pa pr (mS m r) := by
  obtain ⟨n, sp, lo, hi, z0, z1, z2, tr, pl, nl, pt, nt, pb, fl, nld, fb, nbr, nh, nc, ns, no, tu, po, al, si, sm, dn, dw, hcd, hru, hq, hbk, hou, hta, hdn, hdw, hbd⟩ := h
  obtain ⟨o1, o2, o3, o4, o5, o6, o7, o8⟩ := hou
  exact ⟨n, sp, lo, hi, z0, z1, z2, tr, pl, nl, pt, nt, pb, fl, nld, fb, nbr, nh, nc, ns, no, tu, po, al, si, sm, dn, dw, RCd_mS _ hcd, RRu_mS _ hru, RTQ_congr hq (fun j hj => e j (by omega)),
      RBk_congr hbk (fun j hj hj2 => e j (by omega)), ⟨fun a ha => (e _ (by omega)).trans (o1 a ha), ⟨o2.1, (e _ (by omega)).trans o2.2.1, o2.2.2⟩, ⟨o3.1, (e _ (by omega)).trans o3.2.1, o3.2.2⟩, (e _ (by omega)).trans o4, fun k hk => (e _ (by omega)).trans (o5 k hk), (e _ (by omega)).trans o6, (e _ (by omega)).trans o7,
        fun k hk => ⟨(e _ (by omega)).trans (o8 k hk).1, (e _ (by omega)).trans (o8 k hk).2.1, (e _ (by omega)).trans (o8 k hk).2.2⟩⟩,
      RTa_congr hta (fun j hj => e j (by omega)), ⟨hdn.1, (e 226 (by omega)).trans hdn.2.1, hdn.2.2⟩, ⟨hdw.1, (e 227 (by omega)).trans hdw.2.1, hdw.2.2⟩, hbd⟩
