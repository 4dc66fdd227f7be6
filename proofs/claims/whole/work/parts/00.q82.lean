/-! LINES: an INSTRUCTION as a whole -/
theorem IR_all {T : Nat → Nat} {n : Nat} {rd0 : T_Rd} {m1 m : T_M} {pl1 q1 sz w : Nat} (hA : AH T n rd0 m1 pl1 q1) (hwd : WD rd0) (hsd : SD rd0) (hp0 : ∀ j, j < 3 → Rd_parts rd0 j = NN 0) (pr : T_Pg) (hps : Pg_size pr = NN sz) (hsz : sz < 40) (h8 : M_number (M_cd m) 18 = NN sz) (eg : f_M_goOn m = some m1) (hc : M_cd m1 = M_cd m) (hw : 7 ≤ w ∧ w < 25) : IR T n rd0 m1 m pr w (cm w) (w - 7) sz pl1 := by
  rcases (by omega : w = 7 ∨ w = 8 ∨ w = 9 ∨ w = 10 ∨ w = 11 ∨ w = 12 ∨ w = 13 ∨ w = 14 ∨ w = 15 ∨ w = 16 ∨ w = 17 ∨ w = 18 ∨ w = 19 ∨ w = 20 ∨ w = 21 ∨ w = 22 ∨ w = 23 ∨ w = 24) with rfl | rfl | rfl | rfl | rfl | rfl | rfl | rfl | rfl | rfl | rfl | rfl | rfl | rfl | rfl | rfl | rfl | rfl
  · exact IL_7 hA hwd hsd hp0 pr hps hsz h8 eg hc
  · exact IL_8 hA hwd hsd hp0 pr hps hsz h8 eg hc
  · exact IL_9 hA hwd hsd hp0 pr hps hsz h8 eg hc
  · exact IL_10 hA hwd hsd hp0 pr hps hsz h8 eg hc
  · exact IL_11 hA hwd hsd hp0 pr hps hsz h8 eg hc
  · exact IL_12 hA hwd hsd hp0 pr hps hsz h8 eg hc
  · exact IL_13 hA hwd hsd hp0 pr hps hsz h8 eg hc
  · exact IL_14 hA hwd hsd hp0 pr hps hsz h8 eg hc
  · exact IL_15 hA hwd hsd hp0 pr hps hsz h8 eg hc
  · exact IL_16 hA hwd hsd hp0 pr hps hsz h8 eg hc
  · exact IL_17 hA hwd hsd hp0 pr hps hsz h8 eg hc
  · exact IL_18 hA hwd hsd hp0 pr hps hsz h8 eg hc
  · exact IL_19 hA hwd hsd hp0 pr hps hsz h8 eg hc
  · exact IL_20 hA hwd hsd hp0 pr hps hsz h8 eg hc
  · exact IL_21 hA hwd hsd hp0 pr hps hsz h8 eg hc
  · exact IL_22 hA hwd hsd hp0 pr hps hsz h8 eg hc
  · exact IL_23 hA hwd hsd hp0 pr hps hsz h8 eg hc
  · exact IL_24 hA hwd hsd hp0 pr hps hsz h8 eg hc
theorem cm_code {w : Nat} (hw : 7 ≤ w ∧ w < 25) : cm w = (if w - 7 = 0 then 24 else w - 7 + 6) ∧ 7 ≤ cm w ∧ cm w < 25 := by
  unfold cm
  rw [if_neg (by omega)]
  by_cases q : w = 7
  · rw [if_pos q, if_pos (by omega)]; omega
  · rw [if_neg q, if_neg (by omega)]; omega
theorem line_instr {T : Nat → Nat} {n : Nat} {rd : T_Rd} {pr : T_Pg} {m : T_M} {pl q sz nc w : Nat} (hA : AT T n rd m pl q) (hwd : WD rd) (hsd : SD rd) (hD : DR rd pr m sz nc) (hw : 7 ≤ w ∧ w < 25) (h1 : Rd_token rd = NN 1) (h2 : Rd_value rd = NN (WP w)) (h3 : M_sort (M_rd m) = NN 0) (h4 : M_value (M_rd m) = NN (cm w)) : LOK T n rd pr m pl (sz + 1) nc ∨ LBAD T n rd pr m := by
  obtain ⟨⟨d1, d2, d3⟩, d4, d5, d6, d7, d8, d9, d10, d11, d12, d13, d14⟩ := hD
  obtain ⟨x1, x2, x3, x4, x5, x6, x7, x8, x9, x10⟩ := id hA
  obtain ⟨c1, c2, c3⟩ := cm_code hw
  have ht : tb (Rd_toldRules rd) w = NN 0 := by rw [d11 w hw.2, if_neg (by omega)]
  by_cases g : sz = 40
  · subst g
    refine Or.inr ⟨_, pr, _, C_headBad hwd hw.2 h1 h2 d1 (Or.inr ⟨rfl, hw.1, rfl⟩), (M_lineCode h3 h4 ⟨c2, by omega⟩ (RC_full x2 d2 _)).trans (ML_bad (f := 2) rfl (by omega)), AT_bad hA (by omega), ⟨⟨rfl, rfl, rfl, rfl, rfl⟩, ⟨rfl, rfl, rfl, rfl, rfl, rfl, rfl⟩, LOW_refl _⟩⟩
  · obtain ⟨q', pl', sort', value', g1, g2, g3⟩ := AT_goOn hA
    have hA0 := g2 (pR rd (z3 (Rd_parts rd))) (TP_C x3) x6 x1
    obtain ⟨rd3, m3, a, b, d, eC, eM, fr, fm, hd, cdx, hres⟩ := IR_all hA0 hwd hsd (z3_0 _) pr d1 (by omega) d2 g1 rfl hw
    have hC := (C_head hwd hw.2 h1 h2 ht d1 d3 (Or.inr (by omega))).trans (eC (KL pr (NN w)))
    have hM := M_lineCode h3 h4 ⟨c2, by omega⟩ eM
    have fr' : FR1 rd rd3 := fr
    have fm' : FM1 m m3 := fm
    have hd' : M_hasData (M_rd m3) = M_hasData (M_rd m) := hd
    rcases hres with ⟨pl3, q3, hA3, hle, htd, hok⟩ | hbd
    · rcases tail pr (NN w) (Or.inl ⟨pl3, q3, hA3⟩) with ⟨rd1, m1, plN, qN, pos, tok, val, place, ⟨pl0, q0, hAH, hlt⟩, rfl, k1, k2, k3, k4, k5, k6, k7, k8⟩ | ⟨rd1, m1, k1, k2, k3, k4, k5, k6, k7, k8, k9, k10, k11, k12⟩
      · have hpl : pl3 = pl0 := by
          obtain ⟨_, _, _, _, e, A⟩ := hA3
          obtain ⟨_, _, _, _, e', A'⟩ := hAH
          have := A.2.2.2.2.2.2.2.2.1
          have := A'.2.2.2.2.2.2.2.2.1
          have t := A.2.2.1.2.2.1
          have a1 := A.2.2.2.1
          have a2 := A.2.2.2.2.1
          have a3 := A'.2.2.2.1
          have a4 := A'.2.2.2.2.1
          exact n_inj (by omega) (by omega) (by rw [← A.2.2.2.2.2.2.2.2.1, A'.2.2.2.2.2.2.2.2.1])
        subst hpl
        have hT := C_takeInstr (v := tR rd3 pos tok val place) (pr := pL pr (Pg_lines pr + NN 1)) hw d1 (by omega : sz < 40)
        obtain ⟨a', b', d', i1, i2, i3, i4, i5, i6, i7⟩ := hok
        have e9 : M_cd m1 = M_cd m3 := k4
        have hE : M_cd (lM m1) = M_cd m3 := k4
        obtain ⟨s1, s2, s3, s4, s5, s6, s7, s8, s9, s10⟩ := id cdx
        obtain ⟨fm1, fm2, fm3, fm4, fm5, fm6, fm7, fm8, fm9⟩ := fm'
        obtain ⟨kf1, kf2, kf3, kf4, kf5, kf6, kf7, kf8, kf9⟩ := k3
        obtain ⟨fr1, fr2, fr3, fr4, fr5, fr6⟩ := fr'
        refine Or.inl ⟨_, _, lM m1, plN, qN, hC.trans (k1.trans hT), hM.trans k2, k8 _ k7 rfl k6, by omega, ?_, ⟨⟨fr1, fr2, fr3, fr4, fr5⟩, ⟨kf1.trans fm1, kf2.trans fm2, kf3.trans fm3, kf4.trans fm4, kf5.trans fm5, kf6.trans fm6, kf7.trans fm7⟩, by rw [hE]; exact CDX_LOW cdx⟩, rfl⟩
        have hIT : M_isTold (M_rd (lM m1)) = M_isTold (M_rd m) := kf9.trans fm9
        have hHD : M_hasData (M_rd (lM m1)) = M_hasData (M_rd m) := k5.trans hd'
        have hLN : M_lines (M_rd (lM m1)) = M_lines (M_rd m) + NN 1 := by show M_lines (M_rd m1) + NN 1 = _; rw [kf8, fm8]
        unfold DR
        rw [hE, hIT, hHD, hLN]
        refine ⟨⟨rfl, by rw [s1, upd_at rfl], by omega⟩, ⟨d4.1, by rw [s1, upd_ne (by omega)]; exact d4.2.1, d4.2.2⟩, ?_, fun k hk => ?_, fun x hx => ?_, fun k hk => ?_, fun p hp1 hp2 => ?_, fun p hp => ?_, ?_, d12, ?_, d14⟩
        · show Pg_lines pr + NN 1 = _; rw [d5]
        · obtain ⟨r, r1, r2, r3⟩ := d6 k hk
          exact ⟨r, r1, r2, by rw [s1, upd_ne (by omega)]; exact r3⟩
        · rw [s9]; exact d7 x hx
        · rw [s7, s8]; exact d8 k hk
        · exact (upd_ne (by omega)).trans (d9 p (by omega) hp2)
        · by_cases gp : p = sz
          · subst gp
            refine ⟨w - 7, a', b', d', i1, upd_at rfl, (upd_at rfl).trans i4, (upd_at rfl).trans i5, ?_, ?_, ?_, fun hc => ?_, fun hc => ?_⟩
            · rw [s2, upd_at rfl, c1]
            · rw [s3, upd_at rfl, i2]
            · rw [s4, upd_at rfl, i3]
            · obtain ⟨j1, j2, j3⟩ := i6 hc
              exact ⟨(upd_at rfl).trans j2, by rw [s5, upd_at rfl, j1]⟩
            · obtain ⟨j1, pp, j2, j3, j4⟩ := i7 hc
              refine ⟨(upd_at rfl).trans j1, pp, j2, ?_, j4⟩
              show Rd_wantedPlaces rd3 p = _
              rw [j3, upd_at rfl]
          · obtain ⟨c, a, b, d, y1, y2, y3, y4, y5, y6, y7, y8, y9⟩ := d10 p (by omega)
            refine ⟨c, a, b, d, y1, (upd_ne gp).trans y2, (upd_ne gp).trans y3, (upd_ne gp).trans y4, ?_, ?_, ?_, fun hc => ?_, fun hc => ?_⟩
            · rw [s2, upd_ne (by omega)]; exact y5
            · rw [s3, upd_ne (by omega)]; exact y6
            · rw [s4, upd_ne (by omega)]; exact y7
            · exact ⟨(upd_ne gp).trans (y8 hc).1, by rw [s5, upd_ne (by omega)]; exact (y8 hc).2⟩
            · obtain ⟨z1, ww, z2, z3, z4⟩ := y9 hc
              refine ⟨(upd_ne gp).trans (by rw [(s10 (40 + p) (by omega)).1]; exact z1), ww, z2, ?_, by rw [(s10 (40 + p) (by omega)).2]; exact z4⟩
              show Rd_wantedPlaces rd3 p = _
              by_cases hc14 : w - 7 < 14
              · rw [(i6 hc14).2.2]; exact z3
              · obtain ⟨j1, pp, j2, j3, j4⟩ := i7 (by omega)
                rw [j3, upd_ne gp]; exact z3
        · intro k hk
          show tb (Rd_toldRules rd3) k = _
          rw [fr6]; exact d11 k hk
        · intro k hk
          show tb (Rd_toldData rd3) k = _
          rw [htd]; exact d13 k hk
      · refine Or.inr ⟨rd1, pr, m1, hC.trans k1, hM.trans k2, k3, ?_⟩
        exact FX_trans (FX_of fr' fm' (CDX_LOW cdx)) ⟨⟨k4.1, k4.2.1, k4.2.2.1, k4.2.2.2.1, k4.2.2.2.2.1⟩, ⟨k5, k6, k7, k8, k9, k10, k11⟩, by rw [k12]; exact LOW_refl _⟩
    · rcases tail pr (NN w) (Or.inr hbd) with ⟨rd1, m1, plN, qN, pos, tok, val, place, ⟨pl0, q0, hAH, hlt⟩, -⟩ | ⟨rd1, m1, k1, k2, k3, k4, k5, k6, k7, k8, k9, k10, k11, k12⟩
      · obtain ⟨f, hf, e1, e2⟩ := BD_fault hbd
        have := n_inj (by omega) (by omega) (e1.symm.trans (AH_fault hAH))
        omega
      · refine Or.inr ⟨rd1, pr, m1, hC.trans k1, hM.trans k2, k3, ?_⟩
        exact FX_trans (FX_of fr' fm' (CDX_LOW cdx)) ⟨⟨k4.1, k4.2.1, k4.2.2.1, k4.2.2.2.1, k4.2.2.2.2.1⟩, ⟨k5, k6, k7, k8, k9, k10, k11⟩, by rw [k12]; exact LOW_refl _⟩
