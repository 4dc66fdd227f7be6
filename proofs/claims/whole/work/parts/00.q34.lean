theorem wLead_le {sp nl c ah hi nld z0 nbr z1 nh z2 : Nat} : wLead sp nl c ah hi nld z0 nbr z1 nh z2 ≤ 4 := by
  simp only [wLead]; repeat' split
  all_goals omega
theorem wTrail_le {sp nt c ah lo yl nld nbr nh nc : Nat} : wTrail sp nt c ah lo yl nld nbr nh nc ≤ 4 := by
  simp only [wTrail]; repeat' split
  all_goals omega
theorem wLead_zero {sp nl c ah hi nld z0 nbr z1 nh z2 : Nat} (h : wLead sp nl c ah hi nld z0 nbr z1 nh z2 = 0) : nl < sp ∧ c ≠ 0 ∧ ah < hi ∧ (c = 6 → nld < z0) ∧ (15 ≤ c → nbr < z1) ∧ (c = 7 ∨ c = 8 → nh < z2) := by
  simp only [wLead] at h
  by_cases q1 : sp ≤ nl
  · rw [if_pos q1] at h; omega
  rw [if_neg q1] at h
  by_cases q2 : c = 0
  · rw [if_pos q2] at h; omega
  rw [if_neg q2] at h
  by_cases q3 : hi ≤ ah
  · rw [if_pos q3] at h; omega
  rw [if_neg q3] at h
  by_cases q4 : (c = 6 ∧ z0 ≤ nld) ∨ (15 ≤ c ∧ z1 ≤ nbr) ∨ ((c = 7 ∨ c = 8) ∧ z2 ≤ nh)
  · rw [if_pos q4] at h; omega
  omega
theorem wTrail_zero {sp nt c ah lo yl nld nbr nh nc : Nat} (h : wTrail sp nt c ah lo yl nld nbr nh nc = 0) : nt < sp ∧ c ≠ 0 ∧ 1 ≤ ah ∧ (c = 6 → 1 ≤ nld) ∧ (15 ≤ c → 1 ≤ nbr) ∧ (c = 7 ∨ c = 8 → nc < nh) := by
  simp only [wTrail] at h
  by_cases q1 : sp ≤ nt
  · rw [if_pos q1] at h; omega
  rw [if_neg q1] at h
  by_cases q2 : c = 0
  · rw [if_pos q2] at h; omega
  rw [if_neg q2] at h
  by_cases q3 : ah < 1 ∨ (ah < lo ∧ yl = 0)
  · rw [if_pos q3] at h; omega
  rw [if_neg q3] at h
  by_cases q4 : (c = 6 ∧ nld = 0) ∨ (15 ≤ c ∧ nbr = 0) ∨ ((c = 7 ∨ c = 8) ∧ nh ≤ nc)
  · rw [if_pos q4] at h; omega
  omega
set_option maxHeartbeats 8000000 in
theorem sim_turn2 {B : Nat} {pa : T_Pa} {pr : T_Pg} {v : T_M} (h : RPa B pa pr v) (hB : B < 1000000) (hdn : Pa_done pa = NN 0) (hdw : Pa_down pa = NN 0) :
    ∃ kind pa' row pt', f_Pa_upcoming pa pr = some (NN kind) ∧ f_Pa_turn pa pr = some (NN kind, pa') ∧ f_M_turns v 0 = some (NN 1, mP v row pt') ∧ RPa (B + 1) pa' pr (mP v row pt') ∧ row 219 = M_s (M_rn v) 219 + NN 1 ∧ KD pa pa' (M_s (M_rn v)) row kind := by
  obtain ⟨n, sp, lo, hi, z0, z1, z2, tr, pl, nl, pt, nt, pb, fl, nld, fb, nbr, nh, nc, ns, no, tu, po, al, si, sm, dn, dw, hcd, hru, hq, hbk, hou, hta, ⟨d1, d2, d3⟩, ⟨w1, w2, w3⟩, ⟨x1, x2, x3, x4, x5, x6, x7⟩⟩ := h
  have hdn0 : dn = 0 := n_inj (by omega) (by omega) (d1.symm.trans hdn)
  have hdw0 : dw = 0 := n_inj (by omega) (by omega) (w1.symm.trans hdw)
  subst hdn0
  subst hdw0
  have x8 := x7 rfl
  obtain ⟨⟨r1, r2, r3⟩, ⟨r4, r5, r6⟩, ⟨r7, r8, r9⟩, ⟨s1, s2, s3⟩, ⟨s4, s5, s6⟩, ⟨s7, s8, s9⟩, ⟨u1, u2, u3, u4⟩⟩ := id hru
  obtain ⟨hL, hT, hLd, hBr, hHe, hle⟩ := id hq
  obtain ⟨⟨a1, a2, a3⟩, ⟨b1, b2, b3⟩, -⟩ := id hL
  obtain ⟨⟨e1, e2, e3⟩, ⟨g1, g2, g3⟩, -⟩ := id hT
  obtain ⟨-, ⟨l3, l4, l5⟩, -⟩ := id hLd
  obtain ⟨-, ⟨m3, m4, m5⟩, -⟩ := id hBr
  obtain ⟨⟨o1, o2, o3⟩, ⟨o4, o5, o6⟩, -⟩ := id hHe
  obtain ⟨⟨t1, t2⟩, ⟨t3, t4⟩, ⟨t5, t6⟩, ⟨t7, t8⟩, ⟨t9, t10⟩, -, t14, t15, t16, -⟩ := id hta
  obtain ⟨hM, ⟨-, y1, -⟩, ⟨-, y2, -⟩, -⟩ := id hou
  obtain ⟨cl, hcl, ecl⟩ := code_at hcd a3
  obtain ⟨ct, hct, ect⟩ := code_at hcd e3
  have b2' : M_s (M_rn v) 2 = NN nl := b2
  have g2' : M_s (M_rn v) 3 = NN nt := g2
  have hts : ∀ j, j ≠ 219 → tuS v j = M_s (M_rn v) j := fun j hj => upd_ne hj
  obtain ⟨yl, hyl⟩ : ∃ yl, yl = wLead sp nl cl (nl - nt) hi nld z0 nbr z1 nh z2 := ⟨_, rfl⟩
  obtain ⟨yt, hyt⟩ : ∃ yt, yt = wTrail sp nt ct (nl - nt) lo yl nld nbr nh nc := ⟨_, rfl⟩
  have hyl4 : yl ≤ 4 := by rw [hyl]; exact wLead_le
  have hyt4 : yt ≤ 4 := by rw [hyt]; exact wTrail_le
  have eCL : f_Pa_whyLeaderWaits pa pr = some (NN yl) := by
    rw [hyl]; exact C_whyLeader r3 b3 hle hcl a3 r9 ⟨l5, m5, o3, s3, s6, s9⟩ b1 g1 r1 a1 ecl r7 s1 s4 s7 l3 m3 o1
  have eCT : f_Pa_whyTrailerWaits pa pr = some (NN yt) := by
    rw [hyt]; exact C_whyTrailer r3 b3 hle hct e3 r6 ⟨l5, m5, o3, o6⟩ hyl4 b1 g1 r1 e1 ect r4 eCL l3 m3 o1 o4
  have eML : f_M_leaderWhy (mS v (tuS v)) = some (NN yl) := by
    rw [hyl]
    exact M_whyLeader (v := mS v (tuS v)) (pr := pr) (n := n) hcd r3 b3 hle hcl a3 r9 ⟨l5, m5, o3, o6, s3, s6, s9⟩ ((hts 2 (by omega)).trans b2) ((hts 3 (by omega)).trans g2) r2 ((hts 0 (by omega)).trans a2) ecl r8 s2 s5 s8 ((hts 86 (by omega)).trans l4) ((hts 103 (by omega)).trans m4) ((hts 112 (by omega)).trans o2) ((hts 113 (by omega)).trans o5)
  have eMT : f_M_trailerWhy (mS v (tuS v)) = some (NN yt) := by
    rw [hyt]
    exact M_whyTrailer (v := mS v (tuS v)) (pr := pr) (n := n) hcd r3 b3 hle hct e3 r6 ⟨l5, m5, o3, o6, s3, s6, s9⟩ hyl4 ((hts 2 (by omega)).trans b2) ((hts 3 (by omega)).trans g2) r2 ((hts 1 (by omega)).trans e2) ect r5 eML s2 s5 s8 ((hts 86 (by omega)).trans l4) ((hts 103 (by omega)).trans m4) ((hts 112 (by omega)).trans o2) ((hts 113 (by omega)).trans o5)
  have h0 := M_isOver0 d2 w2
  have hn40 : n ≤ 40 := hcd.1
  by_cases qt : yt = 0
  · -- the TRAILER steps
    rw [qt] at eCT eMT
    obtain ⟨z3, z4, z5, z6, z7, z8⟩ := wTrail_zero (hyt.symm.trans qt)
    obtain ⟨a, b, d, hpn, hI⟩ := IS_of hcd e3 ect hct z4
    obtain ⟨r0, hr0⟩ : ∃ r0, r0 = upd (tuS v) 229 (M_s (M_rn v) 229 + NN 1) := ⟨_, rfl⟩
    have hr : ∀ j, j ≠ 219 → j ≠ 229 → r0 j = M_s (M_rn v) j := fun j h1 h2 => by rw [hr0, upd_ne h2, hts j h1]
    have hr219 : r0 219 = M_s (M_rn v) 219 + NN 1 := by rw [hr0, upd_ne (by omega)]; exact upd_at rfl
    have hr229 : r0 229 = M_s (M_rn v) 229 + NN 1 := by rw [hr0, upd_at rfl]
    have hq2 : RTQ (Pa_leader (pa1 pa)) (Pa_trailer (pa1 pa)) (Pa_queues (pa1 pa)) (M_s (M_rn (mS v r0))) pl nl pt nt fl nld fb nbr nh nc := RTQ_congr hq (fun j hj => hr j (by omega) (by omega))
    have hAT : f_Pa_alarmOfTrailer (pa1 pa) pr = f_Pa_alarmOfTrailer pa pr := by unfold f_Pa_alarmOfTrailer; rfl
    rcases sim_trailer (pa := pa1 pa) (v := mS v r0) hn40 hpn hq2 hI z4 (by omega) (by omega) z6 z7 z8 with ⟨hA0, st', q', row', pt', fl', nld', fb', nbr', nc', eS, eM, hQ, hF⟩ | ⟨k, row', pt', hk1, hk3, hA, eM, hF⟩
    · have eUp := C_upT (k := 0) (by omega) hdn hdw eCT (hAT.symm.trans hA0)
      rw [if_pos rfl] at eUp
      have hF' : ∀ j, 28 ≤ j ∧ j < 86 ∨ 146 ≤ j → j ≠ 219 → j ≠ 229 → row' j = M_s (M_rn v) j := fun j h1 h2 h3 => (hF j h1).trans (hr j h2 h3)
      have eC := C_turn0 eUp eS hQ.1.2.1.1 hQ.2.1.2.1.1 hQ.2.2.2.2.2
      rw [hr0] at eM
      have eMm := M_turnT (v := v) (k := 0) h0 eMT eM (by omega) (fun _ => rfl) (fun h => absurd rfl h) (nl := nl) (nt := nt + 1) hQ.1.2.1.2.1 hQ.2.1.2.1.2.1 hQ.2.2.2.2.2
      have f226 : mF row' (nl - (nt + 1)) 226 = NN 0 := (mF_ne (by omega) (by omega)).trans ((hF' 226 (by omega) (by omega) (by omega)).trans d2)
      have f227 : mF row' (nl - (nt + 1)) 227 = NN 0 := (mF_ne (by omega) (by omega)).trans ((hF' 227 (by omega) (by omega) (by omega)).trans w2)
      refine ⟨0, _, mF row' (nl - (nt + 1)), NN pt', eUp, eC, eMm, ⟨n, sp, lo, hi, z0, z1, z2, tr, pl, nl, pt', nt + 1, pb, fl', nld', fb', nbr', nh, nc', ns, no, tu + 1, po, al, si, sm + (nl - (nt + 1)), 0, 0, hcd, hru, RTQ_congr hQ (fun j hj => mF_ne (by omega) (by omega)), RBk_congr hbk (fun j hj hj2 => (mF_ne (by omega) (by omega)).trans (hF' j (by omega) (by omega) (by omega))), ROu_congr hou (fun j hj => (mF_ne (by omega) (by omega)).trans (hF' j (by omega) (by omega) (by omega))),
        RTa_fin (RTa_up hta (x := Ta_leaderTurns (Pa_tally pa)) (y := Ta_trailerTurns (Pa_tally pa) + NN 1) ((hF 219 (by omega)).trans hr219) ((hF' 228 (by omega) (by omega) (by omega)).trans t14.symm) ((hF 229 (by omega)).trans (hr229.trans (by rw [t15]))) (fun j hj => hF' j (by omega) (by omega) (by omega))) (by omega),
        ⟨hdn, f226, by omega⟩, ⟨hdw, f227, by omega⟩, by omega⟩, (mF_ne (by omega) (by omega)).trans ((hF 219 (by omega)).trans hr219), Or.inl ⟨by omega, ?_, ?_, ?_⟩⟩
      · rw [mF_ne (by omega) (by omega)]; exact hF' 220 (by omega) (by omega) (by omega)
      · rw [mF_ne (by omega) (by omega)]; exact hF' 221 (by omega) (by omega) (by omega)
      · show (St_steps (Pa_leader pa)).toNatClampNeg + (St_steps st').toNatClampNeg = (St_steps (Pa_leader pa)).toNatClampNeg + (St_steps (Pa_trailer pa)).toNatClampNeg + 1
        rw [b1, g1, hQ.2.1.2.1.1, n_tn (by omega), n_tn (by omega), n_tn (by omega)]; omega
    · have hF' : ∀ j, 28 ≤ j ∧ j < 86 ∨ 146 ≤ j → j ≠ 219 → j ≠ 229 → row' j = M_s (M_rn v) j := fun j h1 h2 h3 => (hF j h1).trans (hr j h2 h3)
      have eUp := C_upT (k := k) (by omega) hdn hdw eCT (hAT.symm.trans hA)
      rw [if_neg (by omega)] at eUp
      obtain ⟨ld, tr', q, ta, dw', row2, eR, eA, hQ2, hT2, h227, hdw1, hdwz, h233, hF1, hF2⟩ := sim_raise (pa := pa1 pa) (v := mP (mS v r0) row' pt') (pb := pb) (tu := tu + 1) (po := po) (al := al) (si := si) (sm := sm) (tr := tr) (k := k) (nl := nl) (nt := nt) (e := NN 1) (by omega) (if_neg (by omega))
        (RMk_congr (by decide) (RMk_of hL) (fun j h1 h2 => hF' j (by omega) (by omega) (by omega))) (RMk_congr (by decide) (RMk_of hT) (fun j h1 h2 => hF' j (by omega) (by omega) (by omega))) (RBk_congr hbk (fun j h1 h2 => hF' j (by omega) (by omega) (by omega)))
        (RTa_up hta ((hF 219 (by omega)).trans hr219) ((hF' 228 (by omega) (by omega) (by omega)).trans t14.symm) ((hF 229 (by omega)).trans (hr229.trans (show M_s (M_rn v) 229 + NN 1 = Ta_trailerTurns (Pa_tally pa) + NN 1 by rw [t15]))) (fun j hj => hF' j (by omega) (by omega) (by omega)))
        (by omega) x8 u4 u1 u2 ((hF' 227 (by omega) (by omega) (by omega)).trans w2) b1 g1
      have hG : ∀ j, (146 ≤ j ∧ j < 221) ∨ (222 < j ∧ j < 227) ∨ (227 < j ∧ j < 233) ∨ 265 ≤ j → j ≠ 219 → j ≠ 229 → row2 j = M_s (M_rn v) j := fun j h1 h2 h3 => (hF2 j h1).trans (hF' j (by omega) h2 h3)
      have eC := C_turnA ⟨hk1, by omega⟩ eUp eR hQ2.1.2.1.1 hQ2.2.1.2.1.1 (Nat.le_refl 0)
      rw [hr0] at eM eA
      have eMm := M_turnT (v := v) (k := k) h0 eMT eM (by omega) (v3 := mS (mP (mS v (upd (tuS v) 229 (M_s (M_rn v) 229 + NN 1))) row' pt') row2) (fun h => absurd h (by omega)) (fun _ => by rw [b2', g2']; exact eA) (nl := 0) (nt := 0) hQ2.1.2.1.2.1 hQ2.2.1.2.1.2.1 (Nat.le_refl 0)
      have f226 : mF row2 (0 - 0) 226 = NN 0 := (mF_ne (by omega) (by omega)).trans ((hG 226 (by omega) (by omega) (by omega)).trans d2)
      have f227 : mF row2 (0 - 0) 227 = NN dw' := (mF_ne (by omega) (by omega)).trans h227
      refine ⟨10 + k, _, mF row2 (0 - 0), pt', eUp, eC, eMm, ⟨n, sp, lo, hi, z0, z1, z2, tr, pb, 0, pb, 0, pb, 0, 0, 0, 0, 0, 0, ns, no, tu + 1, po, al + 1, si + 1, sm + (0 - 0), 0, dw', hcd, hru, RTQ_congr hQ2 (fun j hj => mF_ne (by omega) (by omega)), RBk_congr hbk (fun j hj hj2 => (mF_ne (by omega) (by omega)).trans ((hF1 j hj (by omega)).trans (hF' j (by omega) (by omega) (by omega)))), ROu_congr hou (fun j hj => (mF_ne (by omega) (by omega)).trans (hG j (by omega) (by omega) (by omega))),
        RTa_fin hT2 (by omega), ⟨hdn, f226, by omega⟩, ⟨rfl, f227, hdw1⟩, by omega⟩, (mF_ne (by omega) (by omega)).trans (hT2.1.2.trans (by rw [t2, n_add])), Or.inr (Or.inr ⟨k, hk1, by omega, rfl, ?_, ?_, ?_⟩)⟩
      · rw [mF_ne (by omega) (by omega)]; exact hG 220 (by omega) (by omega) (by omega)
      · rw [mF_ne (by omega) (by omega), t6, n_add]; exact hT2.2.2.1.2
      · rw [mF_ne (by omega) (by omega)]; exact h233
  by_cases ql : yl = 0
  · -- the LEADER steps
    rw [ql] at eCL eML
    obtain ⟨z3, z4, z5, z6, z7, z8⟩ := wLead_zero (hyl.symm.trans ql)
    obtain ⟨a, b, d, hpn, hI⟩ := IS_of hcd a3 ecl hcl z4
    obtain ⟨r0, hr0⟩ : ∃ r0, r0 = upd (tuS v) 228 (M_s (M_rn v) 228 + NN 1) := ⟨_, rfl⟩
    have hr : ∀ j, j ≠ 219 → j ≠ 228 → r0 j = M_s (M_rn v) j := fun j h1 h2 => by rw [hr0, upd_ne h2, hts j h1]
    have hr219 : r0 219 = M_s (M_rn v) 219 + NN 1 := by rw [hr0, upd_ne (by omega)]; exact upd_at rfl
    have hr228 : r0 228 = M_s (M_rn v) 228 + NN 1 := by rw [hr0, upd_at rfl]
    have hq2 : RTQ (Pa_leader (pa1 pa)) (Pa_trailer (pa1 pa)) (Pa_queues (pa1 pa)) (M_s (M_rn (mS v r0))) pl nl pt nt fl nld fb nbr nh nc := RTQ_congr hq (fun j hj => hr j (by omega) (by omega))
    obtain ⟨st', q', row', pl', nld', nbr', nh', eS, eM, hQ, hF⟩ := sim_leader (pa := pa1 pa) (v := mS v r0) hn40 hpn hq2 (fun a ha => (hr _ (by omega) (by omega)).trans (hM a ha)) hI z4 (by omega) (fun h => by have := z6 h; omega) (fun h => by have := z7 h; omega) (fun h => by have := z8 h; omega)
    have hF' : ∀ j, 28 ≤ j ∧ j < 86 ∨ 146 ≤ j → j ≠ 219 → j ≠ 228 → row' j = M_s (M_rn v) j := fun j h1 h2 h3 => (hF j h1).trans (hr j h2 h3)
    have eUp := C_upL (y := yt) ⟨by omega, hyt4⟩ hdn hdw eCT eCL
    have eC := C_turn1 eUp eS hQ.1.2.1.1 hQ.2.1.2.1.1 hQ.2.2.2.2.2
    rw [hr0] at eM
    have eMm := M_turnL (v := v) (k := 0) h0 (y := yt) ⟨by omega, hyt4⟩ eMT eML eM (by omega) (fun _ => rfl) (fun h => absurd rfl h) (nl := nl + 1) (nt := nt) hQ.1.2.1.2.1 hQ.2.1.2.1.2.1 hQ.2.2.2.2.2
    have f226 : mF row' (nl + 1 - nt) 226 = NN 0 := (mF_ne (by omega) (by omega)).trans ((hF' 226 (by omega) (by omega) (by omega)).trans d2)
    have f227 : mF row' (nl + 1 - nt) 227 = NN 0 := (mF_ne (by omega) (by omega)).trans ((hF' 227 (by omega) (by omega) (by omega)).trans w2)
    refine ⟨1, _, mF row' (nl + 1 - nt), NN pl', eUp, eC, eMm, ⟨n, sp, lo, hi, z0, z1, z2, tr, pl', nl + 1, pt, nt, pb, fl, nld', fb, nbr', nh', nc, ns, no, tu + 1, po, al, si, sm + (nl + 1 - nt), 0, 0, hcd, hru, RTQ_congr hQ (fun j hj => mF_ne (by omega) (by omega)), RBk_congr hbk (fun j hj hj2 => (mF_ne (by omega) (by omega)).trans (hF' j (by omega) (by omega) (by omega))), ROu_congr hou (fun j hj => (mF_ne (by omega) (by omega)).trans (hF' j (by omega) (by omega) (by omega))),
      RTa_fin (RTa_up hta (x := Ta_leaderTurns (Pa_tally pa) + NN 1) (y := Ta_trailerTurns (Pa_tally pa)) ((hF 219 (by omega)).trans hr219) ((hF 228 (by omega)).trans (hr228.trans (by rw [t14]))) ((hF' 229 (by omega) (by omega) (by omega)).trans t15.symm) (fun j hj => hF' j (by omega) (by omega) (by omega))) (by omega),
      ⟨hdn, f226, by omega⟩, ⟨hdw, f227, by omega⟩, by omega⟩, (mF_ne (by omega) (by omega)).trans ((hF 219 (by omega)).trans hr219), Or.inl ⟨by omega, ?_, ?_, ?_⟩⟩
    · rw [mF_ne (by omega) (by omega)]; exact hF' 220 (by omega) (by omega) (by omega)
    · rw [mF_ne (by omega) (by omega)]; exact hF' 221 (by omega) (by omega) (by omega)
    · show (St_steps st').toNatClampNeg + (St_steps (Pa_trailer pa)).toNatClampNeg = (St_steps (Pa_leader pa)).toNatClampNeg + (St_steps (Pa_trailer pa)).toNatClampNeg + 1
      rw [b1, g1, hQ.1.2.1.1, n_tn (by omega), n_tn (by omega), n_tn (by omega)]; omega
  · -- a POINT
    have ht219 : tuS v 219 = M_s (M_rn v) 219 + NN 1 := upd_at rfl
    have hq2 : RTQ (Pa_leader pa) (Pa_trailer pa) (Pa_queues pa) (M_s (M_rn (mS v (tuS v)))) pl nl pt nt fl nld fb nbr nh nc := RTQ_congr hq (fun j hj => hts j (by omega))
    obtain ⟨k, hk6, eA, eW, hk, hk0⟩ := sim_wrong hq2
    have eUp := C_upP (y := yt) (y2 := yl) (k := k) ⟨by omega, hyt4⟩ ⟨by omega, hyl4⟩ hk6 hdn hdw eCT eCL eA
    by_cases qk : k = 0
    · obtain ⟨hwA, n1, n2, n3, n4⟩ := hk0 qk
      subst n1
      subst n2
      subst n3
      subst n4
      rw [if_pos qk] at eUp
      obtain ⟨ld, tr', pt', q, ou, ta, dn', row, ns', no', eP, eM, hQ, hBk', hOu', hsum, hT', h226, hdn1, h227, h2, h3⟩ := sim_pass (pa := pa1 pa) (v := mS v (tuS v)) (n := n) (pl := pl) (nl := nl) (pt := pt) (fl := fl) (fb := fb) (nh := nh) (pb := pb) (ns := ns) (no := no) (tu := tu + 1) (po := po) (al := al) (si := si) (sm := sm) hcd hq2 hwA
        (RBk_congr hbk (fun j h1 h2 => hts j (by omega))) (ROu_congr hou (fun j hj => hts j (by omega))) (RTa_up hta ht219 ((hts 228 (by omega)).trans t14.symm) ((hts 229 (by omega)).trans t15.symm) (fun j hj => hts j (by omega))) (by omega) ((hts 226 (by omega)).trans d2)
      have eC := C_turn2 eUp eP hQ.1.2.1.1 hQ.2.1.2.1.1 (Nat.le_refl 0)
      have eMm := M_turnP (v := v) (k := k) h0 (y := yt) (y2 := yl) ⟨by omega, hyt4⟩ ⟨by omega, hyl4⟩ eMT eML eW hk6 (fun _ => eM) (fun h => absurd qk h) (nl := 0) (nt := 0) h2 h3 (Nat.le_refl 0)
      have f226 : mF row (0 - 0) 226 = NN dn' := (mF_ne (by omega) (by omega)).trans h226
      have f227 : mF row (0 - 0) 227 = NN 0 := (mF_ne (by omega) (by omega)).trans (h227.trans ((hts 227 (by omega)).trans w2))
      refine ⟨2, _, mF row (0 - 0), M_placeThen (M_rn v), eUp, eC, eMm, ⟨n, sp, lo, hi, z0, z1, z2, tr, pl, 0, pl, 0, pl, 0, 0, 0, 0, 0, 0, ns', no', tu + 1, po + 1, al, 0, sm + (0 - 0), dn', 0, hcd, hru, RTQ_congr hQ (fun j hj => mF_ne (by omega) (by omega)), RBk_congr hBk' (fun j hj hj2 => mF_ne (by omega) (by omega)), ROu_congr hOu' (fun j hj => mF_ne (by omega) (by omega)),
        RTa_fin hT' (by omega), ⟨rfl, f226, hdn1⟩, ⟨hdw, f227, by omega⟩, by omega⟩, (mF_ne (by omega) (by omega)).trans (hT'.1.2.trans (by rw [t2, n_add])), Or.inr (Or.inl ⟨rfl, ?_, ?_⟩)⟩
      · rw [mF_ne (by omega) (by omega), t4, n_add]; exact hT'.2.1.2
      · rw [mF_ne (by omega) (by omega), t6]; exact hT'.2.2.1.2
    · rw [if_neg qk] at eUp
      obtain ⟨ld, tr', q, ta, dw', row2, eR, eAl, hQ2, hT2, h227, hdw1, hdwz, h233, hF1, hF2⟩ := sim_raise (pa := pa1 pa) (v := mS v (tuS v)) (pb := pb) (tu := tu + 1) (po := po) (al := al) (si := si) (sm := sm) (tr := tr) (k := k) (nl := nl) (nt := nt) (e := NN 0) (by omega) (if_pos (by omega))
        (RMk_congr (by decide) (RMk_of hL) (fun j h1 h2 => hts j (by omega))) (RMk_congr (by decide) (RMk_of hT) (fun j h1 h2 => hts j (by omega))) (RBk_congr hbk (fun j h1 h2 => hts j (by omega)))
        (RTa_up hta ht219 ((hts 228 (by omega)).trans t14.symm) ((hts 229 (by omega)).trans (t15.symm.trans (Int32.add_zero _).symm)) (fun j hj => hts j (by omega)))
        (by omega) x8 u4 u1 u2 ((hts 227 (by omega)).trans w2) b1 g1
      have hG : ∀ j, (146 ≤ j ∧ j < 221) ∨ (222 < j ∧ j < 227) ∨ (227 < j ∧ j < 233) ∨ 265 ≤ j → j ≠ 219 → row2 j = M_s (M_rn v) j := fun j h1 h2 => (hF2 j h1).trans (hts j h2)
      have eC := C_turnA ⟨by omega, hk6⟩ eUp eR hQ2.1.2.1.1 hQ2.2.1.2.1.1 (Nat.le_refl 0)
      have eMm := M_turnP (v := v) (k := k) h0 (y := yt) (y2 := yl) ⟨by omega, hyt4⟩ ⟨by omega, hyl4⟩ eMT eML eW hk6 (v3 := mS (mS v (tuS v)) row2) (fun h => absurd h qk) (fun _ => by rw [b2', g2']; exact eAl) (nl := 0) (nt := 0) hQ2.1.2.1.2.1 hQ2.2.1.2.1.2.1 (Nat.le_refl 0)
      have f226 : mF row2 (0 - 0) 226 = NN 0 := (mF_ne (by omega) (by omega)).trans ((hG 226 (by omega) (by omega)).trans d2)
      have f227 : mF row2 (0 - 0) 227 = NN dw' := (mF_ne (by omega) (by omega)).trans h227
      refine ⟨10 + k, _, mF row2 (0 - 0), M_placeThen (M_rn v), eUp, eC, eMm, ⟨n, sp, lo, hi, z0, z1, z2, tr, pb, 0, pb, 0, pb, 0, 0, 0, 0, 0, 0, ns, no, tu + 1, po, al + 1, si + 1, sm + (0 - 0), 0, dw', hcd, hru, RTQ_congr hQ2 (fun j hj => mF_ne (by omega) (by omega)), RBk_congr hbk (fun j hj hj2 => (mF_ne (by omega) (by omega)).trans ((hF1 j hj (by omega)).trans (hts j (by omega)))), ROu_congr hou (fun j hj => (mF_ne (by omega) (by omega)).trans (hG j (by omega) (by omega))),
        RTa_fin hT2 (by omega), ⟨hdn, f226, by omega⟩, ⟨rfl, f227, hdw1⟩, by omega⟩, (mF_ne (by omega) (by omega)).trans (hT2.1.2.trans (by rw [t2, n_add])), Or.inr (Or.inr ⟨k, by omega, hk6, rfl, ?_, ?_, ?_⟩)⟩
      · rw [mF_ne (by omega) (by omega)]; exact hG 220 (by omega) (by omega)
      · rw [mF_ne (by omega) (by omega), t6, n_add]; exact hT2.2.2.1.2
      · rw [mF_ne (by omega) (by omega)]; exact h233
theorem sim_turn {B : Nat} {pa : T_Pa} {pr : T_Pg} {v : T_M} (h : RPa B pa pr v) (hB : B < 1000000) (hdn : Pa_done pa = NN 0) (hdw : Pa_down pa = NN 0) :
    ∃ kind pa' row pt', f_Pa_upcoming pa pr = some (NN kind) ∧ f_Pa_turn pa pr = some (NN kind, pa') ∧ f_M_turns v 0 = some (NN 1, mP v row pt') ∧ RPa (B + 1) pa' pr (mP v row pt') ∧ KD pa pa' (M_s (M_rn v)) row kind := by
  obtain ⟨a, b, c, d, e1, e2, e3, e4, e5, e6⟩ := sim_turn2 h hB hdn hdw
  exact ⟨a, b, c, d, e1, e2, e3, e4, e6⟩
