/-! what is there at the start, alike -/
theorem words_start : ∃ v1 v2 v3, f_Rd_enter 0 z_Rd 0 = some v1 ∧ f_Rd_enter 1 v1 7 = some v2 ∧ f_Rd_enter 2 v2 16 = some v3 ∧ WD v3 ∧ SD v3 ∧ Rd_filled v3 = NN 0 ∧ Rd_fault v3 = NN 0 ∧ Rd_faultPlace v3 = (-1 : Int32) := by
  obtain ⟨w1, s1, e1, a1, b1, c1⟩ := enter1 (si := 0) (b := 0) (n := 7) rfl rfl (by omega) (fun x hx h => lb0 x (by omega) h) z_Rd (fun _ _ => rfl)
  obtain ⟨v1, h1⟩ : ∃ v1 : T_Rd, v1 = ((Rd_tape z_Rd), (Rd_filled z_Rd), (Rd_fault z_Rd), (Rd_faultPlace z_Rd), w1, s1, (Rd_parts z_Rd), (Rd_wantedPlaces z_Rd), (Rd_limit z_Rd), (Rd_position z_Rd), (Rd_token z_Rd), (Rd_value z_Rd), (Rd_place z_Rd), (Rd_toldRules z_Rd), (Rd_toldData z_Rd)) := ⟨_, rfl⟩
  rw [← h1] at e1
  have p1 : Rd_words v1 = w1 ∧ Rd_sorts v1 = s1 ∧ Rd_filled v1 = NN 0 ∧ Rd_fault v1 = NN 0 ∧ Rd_faultPlace v1 = (-1 : Int32) := by rw [h1]; exact ⟨rfl, rfl, rfl, rfl, rfl⟩
  clear h1
  obtain ⟨w2, s2, e2, a2, b2, c2⟩ := enter1 (si := 1) (b := 7) (n := 9) rfl rfl (by omega) (fun x hx h => lb1 x (by omega) h) v1 (fun j hj => by rw [p1.1, a1 j, if_neg (by omega)]; rfl)
  obtain ⟨v2, h2⟩ : ∃ v2 : T_Rd, v2 = ((Rd_tape v1), (Rd_filled v1), (Rd_fault v1), (Rd_faultPlace v1), w2, s2, (Rd_parts v1), (Rd_wantedPlaces v1), (Rd_limit v1), (Rd_position v1), (Rd_token v1), (Rd_value v1), (Rd_place v1), (Rd_toldRules v1), (Rd_toldData v1)) := ⟨_, rfl⟩
  rw [← h2] at e2
  have p2 : Rd_words v2 = w2 ∧ Rd_sorts v2 = s2 ∧ Rd_filled v2 = Rd_filled v1 ∧ Rd_fault v2 = Rd_fault v1 ∧ Rd_faultPlace v2 = Rd_faultPlace v1 := by rw [h2]; exact ⟨rfl, rfl, rfl, rfl, rfl⟩
  clear h2
  obtain ⟨w3, s3, e3, a3, b3, c3⟩ := enter1 (si := 2) (b := 16) (n := 9) rfl rfl (by omega) (fun x hx h => lb2 x (by omega) h) v2 (fun j hj => by rw [p2.1, a2 j, if_neg (by omega), p1.1, a1 j, if_neg (by omega)]; rfl)
  obtain ⟨v3, h3⟩ : ∃ v3 : T_Rd, v3 = ((Rd_tape v2), (Rd_filled v2), (Rd_fault v2), (Rd_faultPlace v2), w3, s3, (Rd_parts v2), (Rd_wantedPlaces v2), (Rd_limit v2), (Rd_position v2), (Rd_token v2), (Rd_value v2), (Rd_place v2), (Rd_toldRules v2), (Rd_toldData v2)) := ⟨_, rfl⟩
  rw [← h3] at e3
  have p3 : Rd_words v3 = w3 ∧ Rd_sorts v3 = s3 ∧ Rd_filled v3 = Rd_filled v2 ∧ Rd_fault v3 = Rd_fault v2 ∧ Rd_faultPlace v3 = Rd_faultPlace v2 := by rw [h3]; exact ⟨rfl, rfl, rfl, rfl, rfl⟩
  clear h3
  refine ⟨v1, v2, v3, e1, e2, e3, ?_, ?_, p3.2.2.1.trans (p2.2.2.1.trans p1.2.2.1), p3.2.2.2.1.trans (p2.2.2.2.1.trans p1.2.2.2.1), p3.2.2.2.2.trans (p2.2.2.2.2.trans p1.2.2.2.2)⟩
  · intro k hk
    rw [p3.1]
    by_cases g : k < 16
    · rw [a3 k, if_neg (by omega), p2.1]
      by_cases g2 : k < 7
      · rw [a2 k, if_neg (by omega), p1.1, a1 k, if_pos (by omega), show min 6 (9 * 7 - 9 * (k - 0)) = 6 by omega, show k - 0 = k by omega]
        exact wac0 k g2
      · rw [a2 k, if_pos (by omega), show min 6 (9 * 9 - 9 * (k - 7)) = 6 by omega, wac1 _ (by omega), show 7 + (k - 7) = k by omega]
    · rw [a3 k, if_pos (by omega), show min 6 (9 * 9 - 9 * (k - 16)) = 6 by omega, wac2 _ (by omega), show 16 + (k - 16) = k by omega]
  · intro i hi
    rw [p3.2.1]
    by_cases g : i < 48
    · rw [c3 i (by omega), p2.2.1]
      by_cases g2 : i < 21
      · rw [c2 i (by omega), p1.2.1]
        have := b1 (i / 3) (i % 3) (by omega)
        rw [if_pos (by omega), ss0 _ (by omega) _ (by omega), show 3 * (0 + i / 3) + i % 3 = i by omega, show 3 * (i / 3) + i % 3 = i by omega] at this
        exact this
      · have := b2 ((i - 21) / 3) ((i - 21) % 3) (by omega)
        rw [if_pos (by omega), ss1 _ (by omega) _ (by omega), show 3 * (7 + (i - 21) / 3) + (i - 21) % 3 = i by omega] at this
        exact this
    · have := b3 ((i - 48) / 3) ((i - 48) % 3) (by omega)
      rw [if_pos (by omega), ss2 _ (by omega) _ (by omega), show 3 * (16 + (i - 48) / 3) + (i - 48) % 3 = i by omega] at this
      exact this
theorem starts : ∃ vPg vR1 vR2 vR3 vPa vM1 vM2, f_Pg_clear z_Pg = some vPg ∧ f_Rd_enter 0 z_Rd 0 = some vR1 ∧ f_Rd_enter 1 vR1 7 = some vR2 ∧ f_Rd_enter 2 vR2 16 = some vR3 ∧ f_Pa_begin z_Pa vPg = some vPa ∧ f_M_takeText z_M = some vM1 ∧ f_M_begins vM1 = some vM2 ∧ M_thrown vM2 = 0 ∧ RTT 0 0 vR3 vPa z_Pa z_Al vPg vM2 := by
  obtain ⟨v1, v2, v3, e1, e2, e3, hwd, hsd, q1, q2, q3⟩ := words_start
  obtain ⟨C, D, e4, c1, c2⟩ := C_pgclear z_Pg
  obtain ⟨ft, fh, D2, k2, e5, t1, t2⟩ := M_take1 (v := z_M) rfl
  obtain ⟨P, hP⟩ : ∃ P, P = pg0 z_Pg C D := ⟨_, rfl⟩
  have e4 : f_Pg_clear z_Pg = some P := by rw [hP]; exact e4
  have g1 : Pg_size P = NN 0 := by rw [hP]; rfl
  have g2 : Pg_nameCount P = NN 0 := by rw [hP]; rfl
  have g3 : Pg_lines P = NN 0 := by rw [hP]; rfl
  have g4 : ∀ k, k < 8 → Pg_rules P k = NN (drule k) := by rw [hP]; exact pg0_rules z_Pg C D
  have g5 : Pg_data P = D := by rw [hP]; rfl
  have g6 : Pg_code P = C := by rw [hP]; rfl
  clear hP
  obtain ⟨N, hN⟩ : ∃ N, N = frN (M_number (M_cd z_M)) := ⟨_, rfl⟩
  rw [← hN] at e5 t1
  have hNat : ∀ k, k < 10 → N (10 + k) = NN (drule k) := fun k hk => by rw [hN]; exact frN_at _ k hk
  clear hN
  obtain ⟨K, hK⟩ : ∃ K, K = fM z_M N ft fh D2 := ⟨_, rfl⟩
  rw [← hK] at e5 t1
  have k1 : M_number (M_cd K) = N := by rw [hK]; rfl
  have k3 : M_data (M_cd K) = D2 := by rw [hK]; rfl
  have k4 : M_lines (M_rd K) = NN 0 := by rw [hK]; rfl
  have k5 : M_taped (M_tp K) = NN 0 := by rw [hK]; rfl
  have k6 : M_lastFault (M_lf K) = NN 0 := by rw [hK]; rfl
  have k7 : M_lastPlace (M_lf K) = (-1 : Int32) := by rw [hK]; rfl
  have k8 : M_hasImage (M_im K) = NN 0 := by rw [hK]; rfl
  have k9 : M_thrown K = NN 0 := by rw [hK]; rfl
  clear hK
  have hT : TXT P K := ⟨0, 0, 0, ⟨g1, by rw [k1]; exact hNat 8 (by omega), by omega⟩, ⟨g2, by rw [k1]; exact hNat 9 (by omega), by omega⟩, ⟨g3, k4, by omega⟩, fun k hk => ⟨drule k, bdR_drule k hk, g4 k hk, by rw [k1]; exact hNat k (by omega)⟩, fun a ha => by rw [g5, k3, c2 a ha, (t2 a ha).1], fun k hk => by omega, fun p _ hp => by rw [g6]; exact c1 p hp, fun p hp => by omega, fun _ => ⟨rfl, rfl, fun k hk => by rw [k1]; exact hNat k hk, fun a ha => by rw [k3]; exact (t2 a ha).1⟩⟩
  have hL : LW P (M_cd (sC K k2)) := LW_take hT t1
  obtain ⟨W, hW⟩ : ∃ W, W = sC K k2 := ⟨_, rfl⟩
  rw [← hW] at e5 hL
  have w1 : M_taped (M_tp W) = NN 0 := by rw [hW]; exact k5
  have w2 : M_lastFault (M_lf W) = NN 0 := by rw [hW]; exact k6
  have w3 : M_lastPlace (M_lf W) = (-1 : Int32) := by rw [hW]; exact k7
  have w4 : M_hasImage (M_im W) = NN 0 := by rw [hW]; exact k8
  have w5 : M_thrown W = NN 0 := by rw [hW]; exact k9
  clear hW
  obtain ⟨pa, m, b1, b2, b3, b4, b5, b6, b7, b8, b9, b10, b11, b12⟩ := begins_all hL z_Pa
  refine ⟨P, v1, v2, v3, pa, W, m, e4, e1, e2, e3, b1, e5, b2, b12.trans w5, b4, b3, b5, ⟨hwd, hsd, ⟨0, fun _ => 0, q1, by rw [b7]; exact w1, by omega, fun j hj => by omega⟩, by rw [b9]; exact q2.trans w2.symm, by rw [b9]; exact q3.trans w3.symm⟩, by rw [b6]; exact hL.1, fun k _ => ⟨rfl, rfl⟩, Or.inl ⟨rfl, by rw [b10]; exact w4⟩⟩
