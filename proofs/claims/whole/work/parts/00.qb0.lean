/-! the mean lead -/
theorem o_mean {B : Nat} {tt : T_TT} {rd : T_Rd} {pa im : T_Pa} {al : T_Al} {pr : T_Pg} {m : T_M} (h : RTT B tt rd pa im al pr m) (hB : B < 1100000) : ∃ r, f_TT_mean tt pa = some r ∧ f_M_mean m = some (r, mT m) := by
  obtain ⟨n, sp, lo, hi, z0, z1, z2, tr, pl, nl, pt, nt, pb, fl, nld, fb, nbr, nh, nc, ns, no, tu, po, al, si, sm, dn, dw, hcd, hru, hq, hbk, hou, hta, hdn, hdw, hbd⟩ := h.1
  obtain ⟨⟨t1, t2⟩, _, _, _, ⟨s1, s2⟩, _⟩ := hta
  have bt := hbd.1
  have bs := hbd.2.2.2.2.1
  have g1 : M_s (M_rn m) (219 : Int32).toNatClampNeg = NN tu := t2
  have g2 : M_s (M_rn m) (230 : Int32).toNatClampNeg = NN sm := s2
  unfold f_TT_mean f_M_mean mT
  rw [g1, g2, t1, s1]
  by_cases g : tu = 0
  · subst g
    exact ⟨_, rfl, rfl⟩
  · have g0 : ¬ NN tu = (0 : Int32) := fun z => by
      have := congrArg Int32.toInt z
      rw [nn_int (by omega), show (0 : Int32).toInt = 0 from rfl] at this
      omega
    obtain ⟨r2, r4, y, e1, e2, e3, e4, e5, e6, e7⟩ := F_quot (n := NN sm) (t := NN tu) (by rw [nn_int (by omega)]; omega) (by rw [nn_int (by omega)]; omega)
    refine ⟨y, s_neg g0 (s_bd e1 (s_bd e2 (s_bd e3 rfl))), s_neg g0 (s_pos e4 ?_)⟩
    with_reducible refine s_nm ?_; intro x3 h3; subst h3
    refine s_pos e5 ?_
    with_reducible refine s_nm ?_; intro x5 h5; subst h5
    exact s_pos e6 (s_bd e7 rfl)
