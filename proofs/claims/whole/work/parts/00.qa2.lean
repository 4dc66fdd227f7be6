/-! every call, alike: what asks only -/
theorem o_register {B : Nat} {tt : T_TT} {rd : T_Rd} {pa im : T_Pa} {al : T_Al} {pr : T_Pg} {m : T_M} (h : RTT B tt rd pa im al pr m) (a1 a2 : Int32) : ∃ r, f_TT_register tt pa a1 a2 = some r ∧ f_M_register_ m a1 a2 = some (r, mT m) := by
  obtain ⟨n, sp, lo, hi, z0, z1, z2, tr, pl, nl, pt, nt, pb, fl, nld, fb, nbr, nh, nc, ns, no, tu, po, al, si, sm, dn, dw, hcd, hru, hq, hbk, hou, hta, hdn, hdw, hbd⟩ := h.1
  exact q_register hq.1 hq.2.1 tt a1 a2
theorem o_real {B : Nat} {tt : T_TT} {rd : T_Rd} {pa im : T_Pa} {al : T_Al} {pr : T_Pg} {m : T_M} (h : RTT B tt rd pa im al pr m) (a1 a2 : Int32) : ∃ r, f_TT_real tt pa a1 a2 = some r ∧ f_M_real m a1 a2 = some (r, mT m) := by
  obtain ⟨n, sp, lo, hi, z0, z1, z2, tr, pl, nl, pt, nt, pb, fl, nld, fb, nbr, nh, nc, ns, no, tu, po, al, si, sm, dn, dw, hcd, hru, hq, hbk, hou, hta, hdn, hdw, hbd⟩ := h.1
  exact q_real hq.1 hq.2.1 tt a1 a2
theorem o_memory {B : Nat} {tt : T_TT} {rd : T_Rd} {pa im : T_Pa} {al : T_Al} {pr : T_Pg} {m : T_M} (h : RTT B tt rd pa im al pr m) (a1 : Int32) : ∃ r, f_TT_memory tt pa a1 = some r ∧ f_M_memory m a1 = some (r, mT m) := by
  obtain ⟨n, sp, lo, hi, z0, z1, z2, tr, pl, nl, pt, nt, pb, fl, nld, fb, nbr, nh, nc, ns, no, tu, po, al, si, sm, dn, dw, hcd, hru, hq, hbk, hou, hta, hdn, hdw, hbd⟩ := h.1
  exact q_memory hou tt a1
theorem o_output {B : Nat} {tt : T_TT} {rd : T_Rd} {pa im : T_Pa} {al : T_Al} {pr : T_Pg} {m : T_M} (h : RTT B tt rd pa im al pr m) (a1 : Int32) : ∃ r, f_TT_output tt pa a1 = some r ∧ f_M_output m a1 = some (r, mT m) := by
  obtain ⟨n, sp, lo, hi, z0, z1, z2, tr, pl, nl, pt, nt, pb, fl, nld, fb, nbr, nh, nc, ns, no, tu, po, al, si, sm, dn, dw, hcd, hru, hq, hbk, hou, hta, hdn, hdw, hbd⟩ := h.1
  exact q_output hou tt a1
theorem o_compared {B : Nat} {tt : T_TT} {rd : T_Rd} {pa im : T_Pa} {al : T_Al} {pr : T_Pg} {m : T_M} (h : RTT B tt rd pa im al pr m) : ∃ r, f_TT_compared tt pa = some r ∧ f_M_compared m = some (r, mT m) := by
  obtain ⟨n, sp, lo, hi, z0, z1, z2, tr, pl, nl, pt, nt, pb, fl, nld, fb, nbr, nh, nc, ns, no, tu, po, al, si, sm, dn, dw, hcd, hru, hq, hbk, hou, hta, hdn, hdw, hbd⟩ := h.1
  exact q_compared hta tt
theorem o_takes {B : Nat} {tt : T_TT} {rd : T_Rd} {pa im : T_Pa} {al : T_Al} {pr : T_Pg} {m : T_M} (h : RTT B tt rd pa im al pr m) : ∃ r, f_TT_takes tt pa = some r ∧ f_M_takes m = some (r, mT m) := by
  obtain ⟨n, sp, lo, hi, z0, z1, z2, tr, pl, nl, pt, nt, pb, fl, nld, fb, nbr, nh, nc, ns, no, tu, po, al, si, sm, dn, dw, hcd, hru, hq, hbk, hou, hta, hdn, hdw, hbd⟩ := h.1
  exact q_takes hou tt
theorem o_left {B : Nat} {tt : T_TT} {rd : T_Rd} {pa im : T_Pa} {al : T_Al} {pr : T_Pg} {m : T_M} (h : RTT B tt rd pa im al pr m) (a1 a2 : Int32) : ∃ r, f_TT_left tt pa a1 a2 = some r ∧ f_M_left m a1 a2 = some (r, mT m) := by
  obtain ⟨n, sp, lo, hi, z0, z1, z2, tr, pl, nl, pt, nt, pb, fl, nld, fb, nbr, nh, nc, ns, no, tu, po, al, si, sm, dn, dw, hcd, hru, hq, hbk, hou, hta, hdn, hdw, hbd⟩ := h.1
  exact q_left hou tt a1 a2
theorem o_alarm {B : Nat} {tt : T_TT} {rd : T_Rd} {pa im : T_Pa} {al : T_Al} {pr : T_Pg} {m : T_M} (h : RTT B tt rd pa im al pr m) (hB : B < 800000) (a1 a2 : Int32) : ∃ r, f_TT_alarm tt pa a1 a2 = some r ∧ f_M_alarm m a1 a2 = some (r, mT m) := by
  obtain ⟨n, sp, lo, hi, z0, z1, z2, tr, pl, nl, pt, nt, pb, fl, nld, fb, nbr, nh, nc, ns, no, tu, po, al, si, sm, dn, dw, hcd, hru, hq, hbk, hou, hta, hdn, hdw, hbd⟩ := h.1
  exact q_alarm hta (by have := hbd.1; have := hbd.2.2.1; omega) tt a1 a2
theorem o_queued {B : Nat} {tt : T_TT} {rd : T_Rd} {pa im : T_Pa} {al : T_Al} {pr : T_Pg} {m : T_M} (h : RTT B tt rd pa im al pr m) (a1 a2 a3 : Int32) : ∃ r, f_TT_queued tt pa a1 a2 a3 = some r ∧ f_M_queued m a1 a2 a3 = some (r, mT m) := by
  obtain ⟨n, sp, lo, hi, z0, z1, z2, tr, pl, nl, pt, nt, pb, fl, nld, fb, nbr, nh, nc, ns, no, tu, po, al, si, sm, dn, dw, hcd, hru, hq, hbk, hou, hta, hdn, hdw, hbd⟩ := h.1
  exact q_queued hq.2.2.1 hq.2.2.2.1 hq.2.2.2.2.1 tt a1 a2 a3
theorem o_count {B : Nat} {tt : T_TT} {rd : T_Rd} {pa im : T_Pa} {al : T_Al} {pr : T_Pg} {m : T_M} (h : RTT B tt rd pa im al pr m) (hB : B < 800000) (a1 : Int32) : ∃ r, f_TT_count tt pa pr a1 = some r ∧ f_M_count m a1 = some (r, mT m) :=
  q_count h.1 (by omega) tt a1
theorem o_fault {B : Nat} {tt : T_TT} {rd : T_Rd} {pa im : T_Pa} {al : T_Al} {pr : T_Pg} {m : T_M} (h : RTT B tt rd pa im al pr m) (a1 : Int32) : ∃ r, f_TT_fault tt rd a1 = some r ∧ f_M_fault m a1 = some (r, mT m) :=
  sim_fault h.2.2.2.1 tt a1
theorem o_named {B : Nat} {tt : T_TT} {rd : T_Rd} {pa im : T_Pa} {al : T_Al} {pr : T_Pg} {m : T_M} (h : RTT B tt rd pa im al pr m) (a1 : Int32) : ∃ r, f_TT_named tt pr a1 = some r ∧ f_M_named m a1 = some (r, mT m) :=
  sim_named h.2.2.2.2.1 tt a1
theorem o_next {B : Nat} {tt : T_TT} {rd : T_Rd} {pa im : T_Pa} {al : T_Al} {pr : T_Pg} {m : T_M} (h : RTT B tt rd pa im al pr m) (hB : B < 800000) : ∃ r m', f_TT_next tt pa pr = some r ∧ f_M_next m = some (r, m') ∧ RTT B tt rd pa im al pr m' := by
  obtain ⟨r, row, pt, ex, e1, e2, e3⟩ := sim_next h.1 (by omega) tt
  exact ⟨r, _, e1, e2, RTT_KP h e3 (KP_mG m row pt ex (M_al m)) (Nat.le_refl _) h.2.2.2.2.2.1⟩
theorem o_shot {B : Nat} {tt : T_TT} {rd : T_Rd} {pa im : T_Pa} {al : T_Al} {pr : T_Pg} {m : T_M} (h : RTT B tt rd pa im al pr m) (hB : B < 800000) (g : Nat → Nat) (xp : Nat) (old : T_Pa) (a1 a2 a3 a4 : Int32) : ∃ r tr' p' m', f_TT_shot g xp tt pa old pr a1 a2 a3 a4 = some (r, tr', p') ∧ f_M_shot m a1 a2 a3 a4 = some (r, m') ∧ RTT B tt rd pa im al pr m' := by
  obtain ⟨r, tr', p', row, pt, ex, e1, e2, e3⟩ := sim_shot h.1 hB g xp tt old a1 a2 a3 a4
  exact ⟨r, tr', p', _, e1, e2, RTT_KP h e3 (KP_mG m row pt ex (M_al m)) (Nat.le_refl _) h.2.2.2.2.2.1⟩
theorem o_matters {B : Nat} {tt : T_TT} {rd : T_Rd} {pa im : T_Pa} {al : T_Al} {pr : T_Pg} {m : T_M} (h : RTT B tt rd pa im al pr m) (hB : B < 800000) (g : Nat → Nat) (xp : Nat) (old : T_Pa) (a1 : Int32) : ∃ r tr' p' m', f_TT_matters g xp tt pa old pr a1 = some (r, tr', p') ∧ f_M_matters m a1 = some (r, m') ∧ RTT B tt rd pa im al pr m' := by
  obtain ⟨r, tr', p', row, pt, ex, e1, e2, e3⟩ := sim_matters h.1 hB g xp tt old a1
  exact ⟨r, tr', p', _, e1, e2, RTT_KP h e3 (KP_mG m row pt ex (M_al m)) (Nat.le_refl _) h.2.2.2.2.2.1⟩
theorem o_slowest {B : Nat} {tt : T_TT} {rd : T_Rd} {pa im : T_Pa} {al : T_Al} {pr : T_Pg} {m : T_M} (h : RTT B tt rd pa im al pr m) (hB : B < 800000) (g : Nat → Nat) (xp : Nat) (old : T_Pa) (a1 : Int32) : ∃ r tr' p' m', f_TT_slowest g xp tt pa old pr a1 = some (r, tr', p') ∧ f_M_slowest m a1 = some (r, m') ∧ RTT B tt rd pa im al pr m' := by
  obtain ⟨r, tr', p', row, pt, ex, e1, e2, e3⟩ := sim_slowest h.1 hB g xp tt old a1
  exact ⟨r, tr', p', _, e1, e2, RTT_KP h e3 (KP_mG m row pt ex (M_al m)) (Nat.le_refl _) h.2.2.2.2.2.1⟩
theorem o_longBy {B : Nat} {tt : T_TT} {rd : T_Rd} {pa im : T_Pa} {al : T_Al} {pr : T_Pg} {m : T_M} (h : RTT B tt rd pa im al pr m) (g : Nat → Nat) (xp : Nat) (old : T_Pa) (a1 : Int32) : ∃ r tr' p' m', f_TT_longBy g xp tt old pr a1 = some (r, tr', p') ∧ f_M_longBy m a1 = some (r, m') ∧ RTT B tt rd pa im al pr m' := by
  obtain ⟨r, tr', p', m', e1, e2, e3, e4⟩ := sim_longBy h.1 h.2.1 h.2.2.1 g xp tt old a1
  exact ⟨r, tr', p', _, e1, e2, RTT_KP h e3 e4 (Nat.le_refl _) h.2.2.2.2.2.1⟩
theorem o_longWith {B : Nat} {tt : T_TT} {rd : T_Rd} {pa im : T_Pa} {al : T_Al} {pr : T_Pg} {m : T_M} (h : RTT B tt rd pa im al pr m) (g : Nat → Nat) (xp : Nat) (old : T_Pa) (a1 a2 : Int32) : ∃ r tr' p' m', f_TT_longWith g xp tt old pr a1 a2 = some (r, tr', p') ∧ f_M_longWith m a1 a2 = some (r, m') ∧ RTT B tt rd pa im al pr m' := by
  obtain ⟨r, tr', p', m', e1, e2, e3, e4⟩ := sim_longWith h.1 h.2.1 h.2.2.1 g xp tt old a1 a2
  exact ⟨r, tr', p', _, e1, e2, RTT_KP h e3 e4 (Nat.le_refl _) h.2.2.2.2.2.1⟩
theorem o_bestSpan {B : Nat} {tt : T_TT} {rd : T_Rd} {pa im : T_Pa} {al : T_Al} {pr : T_Pg} {m : T_M} (h : RTT B tt rd pa im al pr m) (g : Nat → Nat) (xp : Nat) (old : T_Pa) (a1 : Int32) : ∃ r tr' p' m', f_TT_bestSpan g xp tt old pr a1 = some (r, tr', p') ∧ f_M_bestSpan m a1 = some (r, m') ∧ RTT B tt rd pa im al pr m' := by
  obtain ⟨r, tr', p', m', e1, e2, e3, e4⟩ := sim_bestSpan h.1 h.2.1 h.2.2.1 g xp tt old a1
  exact ⟨r, tr', p', _, e1, e2, RTT_KP h e3 e4 (Nat.le_refl _) h.2.2.2.2.2.1⟩
theorem o_need {B : Nat} {tt : T_TT} {rd : T_Rd} {pa im : T_Pa} {al : T_Al} {pr : T_Pg} {m : T_M} (h : RTT B tt rd pa im al pr m) (g : Nat → Nat) (xp : Nat) (old : T_Pa) (a1 : Int32) : ∃ r tr' p' m', f_TT_need g xp tt old pr a1 = some (r, tr', p') ∧ f_M_need m a1 = some (r, m') ∧ RTT B tt rd pa im al pr m' := by
  obtain ⟨r, tr', p', m', e1, e2, e3, e4⟩ := sim_need h.1 h.2.1 h.2.2.1 g xp tt old a1
  exact ⟨r, tr', p', _, e1, e2, RTT_KP h e3 e4 (Nat.le_refl _) h.2.2.2.2.2.1⟩
theorem o_chance {B : Nat} {tt : T_TT} {rd : T_Rd} {pa im : T_Pa} {al : T_Al} {pr : T_Pg} {m : T_M} (h : RTT B tt rd pa im al pr m) (g : Nat → Nat) (xp : Nat) (old : T_Pa) (a1 a2 a3 : Int32) : ∃ r tr' p' m', f_TT_chance g xp tt old pr a1 a2 a3 = some (r, tr', p') ∧ f_M_chance m a1 a2 a3 = some (r, m') ∧ RTT B tt rd pa im al pr m' := by
  obtain ⟨r, tr', p', m', e1, e2, e3, e4⟩ := sim_chance h.1 h.2.1 h.2.2.1 g xp tt old a1 a2 a3
  exact ⟨r, tr', p', _, e1, e2, RTT_KP h e3 e4 (Nat.le_refl _) h.2.2.2.2.2.1⟩
theorem o_plain {B : Nat} {tt : T_TT} {rd : T_Rd} {pa im : T_Pa} {al : T_Al} {pr : T_Pg} {m : T_M} (h : RTT B tt rd pa im al pr m) (a1 a2 : Int32) : ∃ r al' m', f_TT_plain tt al pr a1 a2 = some (r, al') ∧ f_M_plain m a1 a2 = some (r, m') ∧ RTT B tt rd pa im al' pr m' := by
  obtain ⟨r, al', m', e1, e2, e3, e4, e5⟩ := sim_plain h.1 h.2.1 tt al h.2.2.2.2.2.1 a1 a2
  exact ⟨r, al', _, e1, e2, RTT_KP h e3 e4 (Nat.le_refl _) e5⟩
theorem o_plainOf {B : Nat} {tt : T_TT} {rd : T_Rd} {pa im : T_Pa} {al : T_Al} {pr : T_Pg} {m : T_M} (h : RTT B tt rd pa im al pr m) (a1 a2 a3 : Int32) : ∃ r al' m', f_TT_plainOf tt al pr a1 a2 a3 = some (r, al') ∧ f_M_plainOf m a1 a2 a3 = some (r, m') ∧ RTT B tt rd pa im al' pr m' := by
  obtain ⟨r, al', m', e1, e2, e3, e4, e5⟩ := sim_plainOf h.1 h.2.1 tt al h.2.2.2.2.2.1 a1 a2 a3
  exact ⟨r, al', _, e1, e2, RTT_KP h e3 e4 (Nat.le_refl _) e5⟩
theorem o_strays {B : Nat} {tt : T_TT} {rd : T_Rd} {pa im : T_Pa} {al : T_Al} {pr : T_Pg} {m : T_M} (h : RTT B tt rd pa im al pr m) (a1 : Int32) : ∃ r al' m', f_TT_strays tt pa al pr a1 = some (r, al') ∧ f_M_strays m a1 = some (r, m') ∧ RTT B tt rd pa im al' pr m' := by
  obtain ⟨r, al', m', e1, e2, e3, e4, e5⟩ := sim_strays h.1 tt al h.2.2.2.2.2.1 a1
  exact ⟨r, al', _, e1, e2, RTT_KP h e3 e4 (Nat.le_refl _) e5⟩
