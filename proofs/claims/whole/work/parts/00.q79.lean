/-! LINES: each INSTRUCTION goes alike -/
def IR (T : Nat → Nat) (n : Nat) (rd0 : T_Rd) (m1 m : T_M) (pr : T_Pg) (w code cc sz pl1 : Nat) : Prop := ∃ rd3 m3 a b d, (∀ K : T_Rd → Option (T_Rd × T_Pg), bd (cst pr (NN w) (NN 0) rd0) (fun a => bd (cst pr (NN w) (NN 1) a) (fun b => bd (cst pr (NN w) (NN 2) b) (fun c => K c))) = K rd3) ∧ f_M_readCode m (NN code) = some m3 ∧ FR1 rd0 rd3 ∧ FM1 m1 m3 ∧ M_hasData (M_rd m3) = M_hasData (M_rd m1) ∧ CDX (M_cd m) (M_cd m3) sz (NN code) a b d ∧
  ((∃ pl' q', AH T n rd3 m3 pl' q' ∧ pl1 ≤ pl' ∧ Rd_toldData rd3 = Rd_toldData rd0 ∧ OKI cc sz rd0 rd3 m3 a b d) ∨ BD T n rd3 m3)
theorem AH_M0 {T : Nat → Nat} {n : Nat} {rd : T_Rd} {m : T_M} {pl q : Nat} (h : AH T n rd m pl q) : M_fault (M_rd m) = NN 0 := by
  obtain ⟨_, _, _, _, _, h⟩ := h
  exact h.2.1
set_option maxHeartbeats 4000000 in
theorem IL_7 {T : Nat → Nat} {n : Nat} {rd0 : T_Rd} {m1 m : T_M} {pl1 q1 sz : Nat} (hA : AH T n rd0 m1 pl1 q1) (hwd : WD rd0) (hsd : SD rd0) (hp0 : ∀ j, j < 3 → Rd_parts rd0 j = NN 0) (pr : T_Pg) (hps : Pg_size pr = NN sz) (hsz : sz < 40) (h8 : M_number (M_cd m) 18 = NN sz) (eg : f_M_goOn m = some m1) (hc : M_cd m1 = M_cd m) : IR T n rd0 m1 m pr 7 24 0 sz pl1 := by
  have hf1 := AH_M0 hA
  have eR := RC_24 h8 hsz eg hf1 hc
  have h0 : AH T n rd0 (sC m1 (c0 (M_cd m1) (40 + sz) (NN 24))) pl1 q1 := hA
  have hcb : M_cd (sC m1 (c0 (M_cd m1) (40 + sz) (NN 24))) = c0 (M_cd m) (40 + sz) (NN 24) := by rw [hc]; rfl
  have kz0 := cst_skip (pr := pr) (w := 7) (k := 0) (v := rd0) (by omega) (by omega) ((congrFun ((FR1_refl rd0)).2.2.2.1 _).trans (hsd 21 (by omega)))
  have kz1 := cst_skip (pr := pr) (w := 7) (k := 1) (v := rd0) (by omega) (by omega) ((congrFun ((FR1_refl rd0)).2.2.2.1 _).trans (hsd 22 (by omega)))
  have kz2 := cst_skip (pr := pr) (w := 7) (k := 2) (v := rd0) (by omega) (by omega) ((congrFun ((FR1_refl rd0)).2.2.2.1 _).trans (hsd 23 (by omega)))
  have E : M_cd (sC m1 (c0 (M_cd m1) (40 + sz) (NN 24))) = c0 (M_cd m) (40 + sz) (NN 24) := by rw [hcb]
  have E8 : M_number (M_cd (sC m1 (c0 (M_cd m1) (40 + sz) (NN 24)))) 18 = NN sz := by rw [E]; exact h8
  have e9 := fin8_eq E8
  refine ⟨rd0, F9 (sC m1 (c0 (M_cd m1) (40 + sz) (NN 24))) sz, (NN 0), (NN 0), (NN 0), fun K => ?_, ?_, (FR1_refl rd0), (FM1_refl m1), rfl, ?_, ?_⟩
  · rw [kz0, bd_some, kz1, bd_some, kz2, bd_some]
  · rw [eR]
    exact e9
  · refine ⟨?_, fun j => ?_, fun j => ?_, fun j => ?_, fun j => ?_, ?_, ?_, ?_, ?_, fun j hj => ?_⟩
    · simp only [M_cd_mk, M_number_mk, M_codeSort_mk, M_codeA_mk, M_codeB_mk, M_codeC_mk, M_codeName_mk, M_codePlace_mk, M_codeTo_mk, M_labelName_mk, M_labelAt_mk, M_data_mk, E]
    · simp only [M_cd_mk, M_number_mk, M_codeSort_mk, M_codeA_mk, M_codeB_mk, M_codeC_mk, M_codeName_mk, M_codePlace_mk, M_codeTo_mk, M_labelName_mk, M_labelAt_mk, M_data_mk, E, upd_upd]
    · simp only [M_cd_mk, M_number_mk, M_codeSort_mk, M_codeA_mk, M_codeB_mk, M_codeC_mk, M_codeName_mk, M_codePlace_mk, M_codeTo_mk, M_labelName_mk, M_labelAt_mk, M_data_mk, E, upd_upd]
    · simp only [M_cd_mk, M_number_mk, M_codeSort_mk, M_codeA_mk, M_codeB_mk, M_codeC_mk, M_codeName_mk, M_codePlace_mk, M_codeTo_mk, M_labelName_mk, M_labelAt_mk, M_data_mk, E, upd_upd]
    · simp only [M_cd_mk, M_number_mk, M_codeSort_mk, M_codeA_mk, M_codeB_mk, M_codeC_mk, M_codeName_mk, M_codePlace_mk, M_codeTo_mk, M_labelName_mk, M_labelAt_mk, M_data_mk, E, upd_upd]
    · simp only [M_cd_mk, M_number_mk, M_codeSort_mk, M_codeA_mk, M_codeB_mk, M_codeC_mk, M_codeName_mk, M_codePlace_mk, M_codeTo_mk, M_labelName_mk, M_labelAt_mk, M_data_mk, E]
    · simp only [M_cd_mk, M_number_mk, M_codeSort_mk, M_codeA_mk, M_codeB_mk, M_codeC_mk, M_codeName_mk, M_codePlace_mk, M_codeTo_mk, M_labelName_mk, M_labelAt_mk, M_data_mk, E]
    · simp only [M_cd_mk, M_number_mk, M_codeSort_mk, M_codeA_mk, M_codeB_mk, M_codeC_mk, M_codeName_mk, M_codePlace_mk, M_codeTo_mk, M_labelName_mk, M_labelAt_mk, M_data_mk, E]
    · simp only [M_cd_mk, M_number_mk, M_codeSort_mk, M_codeA_mk, M_codeB_mk, M_codeC_mk, M_codeName_mk, M_codePlace_mk, M_codeTo_mk, M_labelName_mk, M_labelAt_mk, M_data_mk, E]
    · simp only [M_cd_mk, M_number_mk, M_codeSort_mk, M_codeA_mk, M_codeB_mk, M_codeC_mk, M_codeName_mk, M_codePlace_mk, M_codeTo_mk, M_labelName_mk, M_labelAt_mk, M_data_mk, E]; exact ⟨trivial, trivial⟩
  · refine Or.inl ⟨pl1, q1, h0, (Nat.le_refl pl1), rfl, ⟨0, 0, 0, ?_, rfl, rfl, ?_, ?_, ?_, ?_⟩⟩
    · refine ⟨by omega, by omega, by omega, by omega, ?_, ?_, ?_, ?_, ?_, ?_, ?_⟩ <;> omega
    · exact hp0 0 (by omega)
    · exact hp0 1 (by omega)
    · intro _
      refine ⟨rfl, ?_, rfl⟩
      exact hp0 2 (by omega)
    · intro hx; omega
set_option maxHeartbeats 4000000 in
theorem IL_8 {T : Nat → Nat} {n : Nat} {rd0 : T_Rd} {m1 m : T_M} {pl1 q1 sz : Nat} (hA : AH T n rd0 m1 pl1 q1) (hwd : WD rd0) (hsd : SD rd0) (hp0 : ∀ j, j < 3 → Rd_parts rd0 j = NN 0) (pr : T_Pg) (hps : Pg_size pr = NN sz) (hsz : sz < 40) (h8 : M_number (M_cd m) 18 = NN sz) (eg : f_M_goOn m = some m1) (hc : M_cd m1 = M_cd m) : IR T n rd0 m1 m pr 8 7 1 sz pl1 := by
  have hf1 := AH_M0 hA
  have eR := RC_7 h8 hsz eg hf1 hc
  have h0 : AH T n rd0 (sC m1 (c0 (M_cd m1) (40 + sz) (NN 7))) pl1 q1 := hA
  have hcb : M_cd (sC m1 (c0 (M_cd m1) (40 + sz) (NN 7))) = c0 (M_cd m) (40 + sz) (NN 7) := by rw [hc]; rfl
  rcases JA h0 pr (40 + sz) (w := 8) (k := 0) (s := 114) (hi := 7) (by omega) (by omega) ((congrFun ((FR1_refl rd0)).2.2.2.1 _).trans (hsd 24 (by omega))) (Or.inr (Or.inr (Or.inr (Or.inr (Or.inr (Or.inl ⟨rfl, rfl, rfl⟩)))))) with ⟨rz0, sz0, Vz0, plz0, qz0, vz0, kz0, oz0, ahz0, lez0, frz0, fmz0, pez0, waz0, tdz0, cdz0, hdz0⟩ | ⟨rz0, sz0, kz0, oz0, bdz0, frz0, fmz0, cdz0, hdz0⟩
  · skip
    rcases JB ahz0 pr (40 + sz) (w := 8) (k := 1) (s := 118) (hi := 99999) (by omega) (by omega) ((congrFun ((FR1_trans (FR1_refl rd0) frz0)).2.2.2.1 _).trans (hsd 25 (by omega))) (Or.inr (Or.inr (Or.inr (Or.inr (Or.inl ⟨rfl, rfl, rfl⟩))))) with ⟨rz1, sz1, Vz1, plz1, qz1, vz1, kz1, oz1, ahz1, lez1, frz1, fmz1, pez1, waz1, tdz1, cdz1, hdz1⟩ | ⟨rz1, sz1, kz1, oz1, bdz1, frz1, fmz1, cdz1, hdz1⟩
    · skip
      have kz2 := cst_skip (pr := pr) (w := 8) (k := 2) (v := rz1) (by omega) (by omega) ((congrFun ((FR1_trans (FR1_trans (FR1_refl rd0) frz0) frz1)).2.2.2.1 _).trans (hsd 26 (by omega)))
      have E : M_cd sz1 = cB (cA (c0 (M_cd m) (40 + sz) (NN 7)) (40 + sz) (NN Vz0)) (40 + sz) (NN Vz1) := by rw [cdz1, cdz0, hcb]
      have E8 : M_number (M_cd sz1) 18 = NN sz := by rw [E]; exact h8
      have e9 := fin8_eq E8
      refine ⟨rz1, F9 sz1 sz, (NN Vz0), (NN Vz1), (NN 0), fun K => ?_, ?_, (FR1_trans (FR1_trans (FR1_refl rd0) frz0) frz1), (FM1_trans (FM1_trans (FM1_refl m1) fmz0) fmz1), (hdz1.trans (hdz0.trans rfl)), ?_, ?_⟩
      · rw [kz0, bd_some, kz1, bd_some, kz2, bd_some]
      · rw [eR, oz0, bd_some, oz1, bd_some]
        exact e9
      · refine ⟨?_, fun j => ?_, fun j => ?_, fun j => ?_, fun j => ?_, ?_, ?_, ?_, ?_, fun j hj => ?_⟩
        · simp only [M_cd_mk, M_number_mk, M_codeSort_mk, M_codeA_mk, M_codeB_mk, M_codeC_mk, M_codeName_mk, M_codePlace_mk, M_codeTo_mk, M_labelName_mk, M_labelAt_mk, M_data_mk, E]
        · simp only [M_cd_mk, M_number_mk, M_codeSort_mk, M_codeA_mk, M_codeB_mk, M_codeC_mk, M_codeName_mk, M_codePlace_mk, M_codeTo_mk, M_labelName_mk, M_labelAt_mk, M_data_mk, E, upd_upd]
        · simp only [M_cd_mk, M_number_mk, M_codeSort_mk, M_codeA_mk, M_codeB_mk, M_codeC_mk, M_codeName_mk, M_codePlace_mk, M_codeTo_mk, M_labelName_mk, M_labelAt_mk, M_data_mk, E, upd_upd]
        · simp only [M_cd_mk, M_number_mk, M_codeSort_mk, M_codeA_mk, M_codeB_mk, M_codeC_mk, M_codeName_mk, M_codePlace_mk, M_codeTo_mk, M_labelName_mk, M_labelAt_mk, M_data_mk, E, upd_upd]
        · simp only [M_cd_mk, M_number_mk, M_codeSort_mk, M_codeA_mk, M_codeB_mk, M_codeC_mk, M_codeName_mk, M_codePlace_mk, M_codeTo_mk, M_labelName_mk, M_labelAt_mk, M_data_mk, E, upd_upd]
        · simp only [M_cd_mk, M_number_mk, M_codeSort_mk, M_codeA_mk, M_codeB_mk, M_codeC_mk, M_codeName_mk, M_codePlace_mk, M_codeTo_mk, M_labelName_mk, M_labelAt_mk, M_data_mk, E]
        · simp only [M_cd_mk, M_number_mk, M_codeSort_mk, M_codeA_mk, M_codeB_mk, M_codeC_mk, M_codeName_mk, M_codePlace_mk, M_codeTo_mk, M_labelName_mk, M_labelAt_mk, M_data_mk, E]
        · simp only [M_cd_mk, M_number_mk, M_codeSort_mk, M_codeA_mk, M_codeB_mk, M_codeC_mk, M_codeName_mk, M_codePlace_mk, M_codeTo_mk, M_labelName_mk, M_labelAt_mk, M_data_mk, E]
        · simp only [M_cd_mk, M_number_mk, M_codeSort_mk, M_codeA_mk, M_codeB_mk, M_codeC_mk, M_codeName_mk, M_codePlace_mk, M_codeTo_mk, M_labelName_mk, M_labelAt_mk, M_data_mk, E]
        · simp only [M_cd_mk, M_number_mk, M_codeSort_mk, M_codeA_mk, M_codeB_mk, M_codeC_mk, M_codeName_mk, M_codePlace_mk, M_codeTo_mk, M_labelName_mk, M_labelAt_mk, M_data_mk, E]; exact ⟨trivial, trivial⟩
      · refine Or.inl ⟨plz1, qz1, ahz1, (Nat.le_trans (Nat.le_trans (Nat.le_refl pl1) lez0) lez1), (tdz1.trans (tdz0.trans rfl)), ⟨Vz0, Vz1, 0, ?_, rfl, rfl, ?_, ?_, ?_, ?_⟩⟩
        · refine ⟨by omega, by omega, by omega, by omega, ?_, ?_, ?_, ?_, ?_, ?_, ?_⟩ <;> omega
        · rw [pez1, upd_ne (by omega)]; rw [pez0]; exact upd_at rfl
        · rw [pez1]; exact upd_at rfl
        · intro _
          refine ⟨rfl, ?_, (waz1.trans waz0)⟩
          rw [pez1, upd_ne (by omega)]; rw [pez0, upd_ne (by omega)]; exact hp0 2 (by omega)
        · intro hx; omega
    · skip
      have kz2 := cst_skip (pr := pr) (w := 8) (k := 2) (v := rz1) (by omega) (by omega) ((congrFun ((FR1_trans (FR1_trans (FR1_refl rd0) frz0) frz1)).2.2.2.1 _).trans (hsd 26 (by omega)))
      have E : M_cd sz1 = cB (cA (c0 (M_cd m) (40 + sz) (NN 7)) (40 + sz) (NN Vz0)) (40 + sz) (NN 0) := by rw [cdz1, cdz0, hcb]
      have E8 : M_number (M_cd sz1) 18 = NN sz := by rw [E]; exact h8
      have e9 := fin8_eq E8
      refine ⟨rz1, F9 sz1 sz, (NN Vz0), (NN 0), (NN 0), fun K => ?_, ?_, (FR1_trans (FR1_trans (FR1_refl rd0) frz0) frz1), (FM1_trans (FM1_trans (FM1_refl m1) fmz0) fmz1), (hdz1.trans (hdz0.trans rfl)), ?_, ?_⟩
      · rw [kz0, bd_some, kz1, bd_some, kz2, bd_some]
      · rw [eR, oz0, bd_some, oz1, bd_some]
        exact e9
      · refine ⟨?_, fun j => ?_, fun j => ?_, fun j => ?_, fun j => ?_, ?_, ?_, ?_, ?_, fun j hj => ?_⟩
        · simp only [M_cd_mk, M_number_mk, M_codeSort_mk, M_codeA_mk, M_codeB_mk, M_codeC_mk, M_codeName_mk, M_codePlace_mk, M_codeTo_mk, M_labelName_mk, M_labelAt_mk, M_data_mk, E]
        · simp only [M_cd_mk, M_number_mk, M_codeSort_mk, M_codeA_mk, M_codeB_mk, M_codeC_mk, M_codeName_mk, M_codePlace_mk, M_codeTo_mk, M_labelName_mk, M_labelAt_mk, M_data_mk, E, upd_upd]
        · simp only [M_cd_mk, M_number_mk, M_codeSort_mk, M_codeA_mk, M_codeB_mk, M_codeC_mk, M_codeName_mk, M_codePlace_mk, M_codeTo_mk, M_labelName_mk, M_labelAt_mk, M_data_mk, E, upd_upd]
        · simp only [M_cd_mk, M_number_mk, M_codeSort_mk, M_codeA_mk, M_codeB_mk, M_codeC_mk, M_codeName_mk, M_codePlace_mk, M_codeTo_mk, M_labelName_mk, M_labelAt_mk, M_data_mk, E, upd_upd]
        · simp only [M_cd_mk, M_number_mk, M_codeSort_mk, M_codeA_mk, M_codeB_mk, M_codeC_mk, M_codeName_mk, M_codePlace_mk, M_codeTo_mk, M_labelName_mk, M_labelAt_mk, M_data_mk, E, upd_upd]
        · simp only [M_cd_mk, M_number_mk, M_codeSort_mk, M_codeA_mk, M_codeB_mk, M_codeC_mk, M_codeName_mk, M_codePlace_mk, M_codeTo_mk, M_labelName_mk, M_labelAt_mk, M_data_mk, E]
        · simp only [M_cd_mk, M_number_mk, M_codeSort_mk, M_codeA_mk, M_codeB_mk, M_codeC_mk, M_codeName_mk, M_codePlace_mk, M_codeTo_mk, M_labelName_mk, M_labelAt_mk, M_data_mk, E]
        · simp only [M_cd_mk, M_number_mk, M_codeSort_mk, M_codeA_mk, M_codeB_mk, M_codeC_mk, M_codeName_mk, M_codePlace_mk, M_codeTo_mk, M_labelName_mk, M_labelAt_mk, M_data_mk, E]
        · simp only [M_cd_mk, M_number_mk, M_codeSort_mk, M_codeA_mk, M_codeB_mk, M_codeC_mk, M_codeName_mk, M_codePlace_mk, M_codeTo_mk, M_labelName_mk, M_labelAt_mk, M_data_mk, E]
        · simp only [M_cd_mk, M_number_mk, M_codeSort_mk, M_codeA_mk, M_codeB_mk, M_codeC_mk, M_codeName_mk, M_codePlace_mk, M_codeTo_mk, M_labelName_mk, M_labelAt_mk, M_data_mk, E]; exact ⟨trivial, trivial⟩
      · exact Or.inr bdz1
  · skip
    obtain ⟨sz1, kz1, oz1, bdz1, fmz1, cdz1, hdz1⟩ := BB bdz0 pr (NN 8) (NN 1) (40 + sz) 99999
    have kz2 := cst_skip (pr := pr) (w := 8) (k := 2) (v := rz0) (by omega) (by omega) ((congrFun ((FR1_trans (FR1_refl rd0) frz0)).2.2.2.1 _).trans (hsd 26 (by omega)))
    have E : M_cd sz1 = cB (cA (c0 (M_cd m) (40 + sz) (NN 7)) (40 + sz) (NN 0)) (40 + sz) (NN 0) := by rw [cdz1, cdz0, hcb]
    have E8 : M_number (M_cd sz1) 18 = NN sz := by rw [E]; exact h8
    have e9 := fin8_eq E8
    refine ⟨rz0, F9 sz1 sz, (NN 0), (NN 0), (NN 0), fun K => ?_, ?_, (FR1_trans (FR1_refl rd0) frz0), (FM1_trans (FM1_trans (FM1_refl m1) fmz0) fmz1), (hdz1.trans (hdz0.trans rfl)), ?_, ?_⟩
    · rw [kz0, bd_some, kz1, bd_some, kz2, bd_some]
    · rw [eR, oz0, bd_some, oz1, bd_some]
      exact e9
    · refine ⟨?_, fun j => ?_, fun j => ?_, fun j => ?_, fun j => ?_, ?_, ?_, ?_, ?_, fun j hj => ?_⟩
      · simp only [M_cd_mk, M_number_mk, M_codeSort_mk, M_codeA_mk, M_codeB_mk, M_codeC_mk, M_codeName_mk, M_codePlace_mk, M_codeTo_mk, M_labelName_mk, M_labelAt_mk, M_data_mk, E]
      · simp only [M_cd_mk, M_number_mk, M_codeSort_mk, M_codeA_mk, M_codeB_mk, M_codeC_mk, M_codeName_mk, M_codePlace_mk, M_codeTo_mk, M_labelName_mk, M_labelAt_mk, M_data_mk, E, upd_upd]
      · simp only [M_cd_mk, M_number_mk, M_codeSort_mk, M_codeA_mk, M_codeB_mk, M_codeC_mk, M_codeName_mk, M_codePlace_mk, M_codeTo_mk, M_labelName_mk, M_labelAt_mk, M_data_mk, E, upd_upd]
      · simp only [M_cd_mk, M_number_mk, M_codeSort_mk, M_codeA_mk, M_codeB_mk, M_codeC_mk, M_codeName_mk, M_codePlace_mk, M_codeTo_mk, M_labelName_mk, M_labelAt_mk, M_data_mk, E, upd_upd]
      · simp only [M_cd_mk, M_number_mk, M_codeSort_mk, M_codeA_mk, M_codeB_mk, M_codeC_mk, M_codeName_mk, M_codePlace_mk, M_codeTo_mk, M_labelName_mk, M_labelAt_mk, M_data_mk, E, upd_upd]
      · simp only [M_cd_mk, M_number_mk, M_codeSort_mk, M_codeA_mk, M_codeB_mk, M_codeC_mk, M_codeName_mk, M_codePlace_mk, M_codeTo_mk, M_labelName_mk, M_labelAt_mk, M_data_mk, E]
      · simp only [M_cd_mk, M_number_mk, M_codeSort_mk, M_codeA_mk, M_codeB_mk, M_codeC_mk, M_codeName_mk, M_codePlace_mk, M_codeTo_mk, M_labelName_mk, M_labelAt_mk, M_data_mk, E]
      · simp only [M_cd_mk, M_number_mk, M_codeSort_mk, M_codeA_mk, M_codeB_mk, M_codeC_mk, M_codeName_mk, M_codePlace_mk, M_codeTo_mk, M_labelName_mk, M_labelAt_mk, M_data_mk, E]
      · simp only [M_cd_mk, M_number_mk, M_codeSort_mk, M_codeA_mk, M_codeB_mk, M_codeC_mk, M_codeName_mk, M_codePlace_mk, M_codeTo_mk, M_labelName_mk, M_labelAt_mk, M_data_mk, E]
      · simp only [M_cd_mk, M_number_mk, M_codeSort_mk, M_codeA_mk, M_codeB_mk, M_codeC_mk, M_codeName_mk, M_codePlace_mk, M_codeTo_mk, M_labelName_mk, M_labelAt_mk, M_data_mk, E]; exact ⟨trivial, trivial⟩
    · exact Or.inr bdz1
set_option maxHeartbeats 4000000 in
theorem IL_9 {T : Nat → Nat} {n : Nat} {rd0 : T_Rd} {m1 m : T_M} {pl1 q1 sz : Nat} (hA : AH T n rd0 m1 pl1 q1) (hwd : WD rd0) (hsd : SD rd0) (hp0 : ∀ j, j < 3 → Rd_parts rd0 j = NN 0) (pr : T_Pg) (hps : Pg_size pr = NN sz) (hsz : sz < 40) (h8 : M_number (M_cd m) 18 = NN sz) (eg : f_M_goOn m = some m1) (hc : M_cd m1 = M_cd m) : IR T n rd0 m1 m pr 9 8 2 sz pl1 := by
  have hf1 := AH_M0 hA
  have eR := RC_8 h8 hsz eg hf1 hc
  have h0 : AH T n rd0 (sC m1 (c0 (M_cd m1) (40 + sz) (NN 8))) pl1 q1 := hA
  have hcb : M_cd (sC m1 (c0 (M_cd m1) (40 + sz) (NN 8))) = c0 (M_cd m) (40 + sz) (NN 8) := by rw [hc]; rfl
  rcases JA h0 pr (40 + sz) (w := 9) (k := 0) (s := 114) (hi := 7) (by omega) (by omega) ((congrFun ((FR1_refl rd0)).2.2.2.1 _).trans (hsd 27 (by omega))) (Or.inr (Or.inr (Or.inr (Or.inr (Or.inr (Or.inl ⟨rfl, rfl, rfl⟩)))))) with ⟨rz0, sz0, Vz0, plz0, qz0, vz0, kz0, oz0, ahz0, lez0, frz0, fmz0, pez0, waz0, tdz0, cdz0, hdz0⟩ | ⟨rz0, sz0, kz0, oz0, bdz0, frz0, fmz0, cdz0, hdz0⟩
  · skip
    rcases JB ahz0 pr (40 + sz) (w := 9) (k := 1) (s := 114) (hi := 7) (by omega) (by omega) ((congrFun ((FR1_trans (FR1_refl rd0) frz0)).2.2.2.1 _).trans (hsd 28 (by omega))) (Or.inr (Or.inr (Or.inr (Or.inr (Or.inr (Or.inl ⟨rfl, rfl, rfl⟩)))))) with ⟨rz1, sz1, Vz1, plz1, qz1, vz1, kz1, oz1, ahz1, lez1, frz1, fmz1, pez1, waz1, tdz1, cdz1, hdz1⟩ | ⟨rz1, sz1, kz1, oz1, bdz1, frz1, fmz1, cdz1, hdz1⟩
    · skip
      rcases JC ahz1 pr (40 + sz) (w := 9) (k := 2) (s := 114) (hi := 7) (by omega) (by omega) ((congrFun ((FR1_trans (FR1_trans (FR1_refl rd0) frz0) frz1)).2.2.2.1 _).trans (hsd 29 (by omega))) (Or.inr (Or.inr (Or.inr (Or.inr (Or.inr (Or.inl ⟨rfl, rfl, rfl⟩)))))) with ⟨rz2, sz2, Vz2, plz2, qz2, vz2, kz2, oz2, ahz2, lez2, frz2, fmz2, pez2, waz2, tdz2, cdz2, hdz2⟩ | ⟨rz2, sz2, kz2, oz2, bdz2, frz2, fmz2, cdz2, hdz2⟩
      · skip
        have E : M_cd sz2 = cC (cB (cA (c0 (M_cd m) (40 + sz) (NN 8)) (40 + sz) (NN Vz0)) (40 + sz) (NN Vz1)) (40 + sz) (NN Vz2) := by rw [cdz2, cdz1, cdz0, hcb]
        have E8 : M_number (M_cd sz2) 18 = NN sz := by rw [E]; exact h8
        have e9 := fin8_eq E8
        refine ⟨rz2, F9 sz2 sz, (NN Vz0), (NN Vz1), (NN Vz2), fun K => ?_, ?_, (FR1_trans (FR1_trans (FR1_trans (FR1_refl rd0) frz0) frz1) frz2), (FM1_trans (FM1_trans (FM1_trans (FM1_refl m1) fmz0) fmz1) fmz2), (hdz2.trans (hdz1.trans (hdz0.trans rfl))), ?_, ?_⟩
        · rw [kz0, bd_some, kz1, bd_some, kz2, bd_some]
        · rw [eR, oz0, bd_some, oz1, bd_some, oz2, bd_some]
          exact e9
        · refine ⟨?_, fun j => ?_, fun j => ?_, fun j => ?_, fun j => ?_, ?_, ?_, ?_, ?_, fun j hj => ?_⟩
          · simp only [M_cd_mk, M_number_mk, M_codeSort_mk, M_codeA_mk, M_codeB_mk, M_codeC_mk, M_codeName_mk, M_codePlace_mk, M_codeTo_mk, M_labelName_mk, M_labelAt_mk, M_data_mk, E]
          · simp only [M_cd_mk, M_number_mk, M_codeSort_mk, M_codeA_mk, M_codeB_mk, M_codeC_mk, M_codeName_mk, M_codePlace_mk, M_codeTo_mk, M_labelName_mk, M_labelAt_mk, M_data_mk, E, upd_upd]
          · simp only [M_cd_mk, M_number_mk, M_codeSort_mk, M_codeA_mk, M_codeB_mk, M_codeC_mk, M_codeName_mk, M_codePlace_mk, M_codeTo_mk, M_labelName_mk, M_labelAt_mk, M_data_mk, E, upd_upd]
          · simp only [M_cd_mk, M_number_mk, M_codeSort_mk, M_codeA_mk, M_codeB_mk, M_codeC_mk, M_codeName_mk, M_codePlace_mk, M_codeTo_mk, M_labelName_mk, M_labelAt_mk, M_data_mk, E, upd_upd]
          · simp only [M_cd_mk, M_number_mk, M_codeSort_mk, M_codeA_mk, M_codeB_mk, M_codeC_mk, M_codeName_mk, M_codePlace_mk, M_codeTo_mk, M_labelName_mk, M_labelAt_mk, M_data_mk, E, upd_upd]
          · simp only [M_cd_mk, M_number_mk, M_codeSort_mk, M_codeA_mk, M_codeB_mk, M_codeC_mk, M_codeName_mk, M_codePlace_mk, M_codeTo_mk, M_labelName_mk, M_labelAt_mk, M_data_mk, E]
          · simp only [M_cd_mk, M_number_mk, M_codeSort_mk, M_codeA_mk, M_codeB_mk, M_codeC_mk, M_codeName_mk, M_codePlace_mk, M_codeTo_mk, M_labelName_mk, M_labelAt_mk, M_data_mk, E]
          · simp only [M_cd_mk, M_number_mk, M_codeSort_mk, M_codeA_mk, M_codeB_mk, M_codeC_mk, M_codeName_mk, M_codePlace_mk, M_codeTo_mk, M_labelName_mk, M_labelAt_mk, M_data_mk, E]
          · simp only [M_cd_mk, M_number_mk, M_codeSort_mk, M_codeA_mk, M_codeB_mk, M_codeC_mk, M_codeName_mk, M_codePlace_mk, M_codeTo_mk, M_labelName_mk, M_labelAt_mk, M_data_mk, E]
          · simp only [M_cd_mk, M_number_mk, M_codeSort_mk, M_codeA_mk, M_codeB_mk, M_codeC_mk, M_codeName_mk, M_codePlace_mk, M_codeTo_mk, M_labelName_mk, M_labelAt_mk, M_data_mk, E]; exact ⟨trivial, trivial⟩
        · refine Or.inl ⟨plz2, qz2, ahz2, (Nat.le_trans (Nat.le_trans (Nat.le_trans (Nat.le_refl pl1) lez0) lez1) lez2), (tdz2.trans (tdz1.trans (tdz0.trans rfl))), ⟨Vz0, Vz1, Vz2, ?_, rfl, rfl, ?_, ?_, ?_, ?_⟩⟩
          · refine ⟨by omega, by omega, by omega, by omega, ?_, ?_, ?_, ?_, ?_, ?_, ?_⟩ <;> omega
          · rw [pez2, upd_ne (by omega)]; rw [pez1, upd_ne (by omega)]; rw [pez0]; exact upd_at rfl
          · rw [pez2, upd_ne (by omega)]; rw [pez1]; exact upd_at rfl
          · intro _
            refine ⟨rfl, ?_, (waz2.trans (waz1.trans waz0))⟩
            rw [pez2]; exact upd_at rfl
          · intro hx; omega
      · skip
        have E : M_cd sz2 = cC (cB (cA (c0 (M_cd m) (40 + sz) (NN 8)) (40 + sz) (NN Vz0)) (40 + sz) (NN Vz1)) (40 + sz) (NN 0) := by rw [cdz2, cdz1, cdz0, hcb]
        have E8 : M_number (M_cd sz2) 18 = NN sz := by rw [E]; exact h8
        have e9 := fin8_eq E8
        refine ⟨rz2, F9 sz2 sz, (NN Vz0), (NN Vz1), (NN 0), fun K => ?_, ?_, (FR1_trans (FR1_trans (FR1_trans (FR1_refl rd0) frz0) frz1) frz2), (FM1_trans (FM1_trans (FM1_trans (FM1_refl m1) fmz0) fmz1) fmz2), (hdz2.trans (hdz1.trans (hdz0.trans rfl))), ?_, ?_⟩
        · rw [kz0, bd_some, kz1, bd_some, kz2, bd_some]
        · rw [eR, oz0, bd_some, oz1, bd_some, oz2, bd_some]
          exact e9
        · refine ⟨?_, fun j => ?_, fun j => ?_, fun j => ?_, fun j => ?_, ?_, ?_, ?_, ?_, fun j hj => ?_⟩
          · simp only [M_cd_mk, M_number_mk, M_codeSort_mk, M_codeA_mk, M_codeB_mk, M_codeC_mk, M_codeName_mk, M_codePlace_mk, M_codeTo_mk, M_labelName_mk, M_labelAt_mk, M_data_mk, E]
          · simp only [M_cd_mk, M_number_mk, M_codeSort_mk, M_codeA_mk, M_codeB_mk, M_codeC_mk, M_codeName_mk, M_codePlace_mk, M_codeTo_mk, M_labelName_mk, M_labelAt_mk, M_data_mk, E, upd_upd]
          · simp only [M_cd_mk, M_number_mk, M_codeSort_mk, M_codeA_mk, M_codeB_mk, M_codeC_mk, M_codeName_mk, M_codePlace_mk, M_codeTo_mk, M_labelName_mk, M_labelAt_mk, M_data_mk, E, upd_upd]
          · simp only [M_cd_mk, M_number_mk, M_codeSort_mk, M_codeA_mk, M_codeB_mk, M_codeC_mk, M_codeName_mk, M_codePlace_mk, M_codeTo_mk, M_labelName_mk, M_labelAt_mk, M_data_mk, E, upd_upd]
          · simp only [M_cd_mk, M_number_mk, M_codeSort_mk, M_codeA_mk, M_codeB_mk, M_codeC_mk, M_codeName_mk, M_codePlace_mk, M_codeTo_mk, M_labelName_mk, M_labelAt_mk, M_data_mk, E, upd_upd]
          · simp only [M_cd_mk, M_number_mk, M_codeSort_mk, M_codeA_mk, M_codeB_mk, M_codeC_mk, M_codeName_mk, M_codePlace_mk, M_codeTo_mk, M_labelName_mk, M_labelAt_mk, M_data_mk, E]
          · simp only [M_cd_mk, M_number_mk, M_codeSort_mk, M_codeA_mk, M_codeB_mk, M_codeC_mk, M_codeName_mk, M_codePlace_mk, M_codeTo_mk, M_labelName_mk, M_labelAt_mk, M_data_mk, E]
          · simp only [M_cd_mk, M_number_mk, M_codeSort_mk, M_codeA_mk, M_codeB_mk, M_codeC_mk, M_codeName_mk, M_codePlace_mk, M_codeTo_mk, M_labelName_mk, M_labelAt_mk, M_data_mk, E]
          · simp only [M_cd_mk, M_number_mk, M_codeSort_mk, M_codeA_mk, M_codeB_mk, M_codeC_mk, M_codeName_mk, M_codePlace_mk, M_codeTo_mk, M_labelName_mk, M_labelAt_mk, M_data_mk, E]
          · simp only [M_cd_mk, M_number_mk, M_codeSort_mk, M_codeA_mk, M_codeB_mk, M_codeC_mk, M_codeName_mk, M_codePlace_mk, M_codeTo_mk, M_labelName_mk, M_labelAt_mk, M_data_mk, E]; exact ⟨trivial, trivial⟩
        · exact Or.inr bdz2
    · skip
      obtain ⟨sz2, kz2, oz2, bdz2, fmz2, cdz2, hdz2⟩ := BC bdz1 pr (NN 9) (NN 2) (40 + sz) 7
      have E : M_cd sz2 = cC (cB (cA (c0 (M_cd m) (40 + sz) (NN 8)) (40 + sz) (NN Vz0)) (40 + sz) (NN 0)) (40 + sz) (NN 0) := by rw [cdz2, cdz1, cdz0, hcb]
      have E8 : M_number (M_cd sz2) 18 = NN sz := by rw [E]; exact h8
      have e9 := fin8_eq E8
      refine ⟨rz1, F9 sz2 sz, (NN Vz0), (NN 0), (NN 0), fun K => ?_, ?_, (FR1_trans (FR1_trans (FR1_refl rd0) frz0) frz1), (FM1_trans (FM1_trans (FM1_trans (FM1_refl m1) fmz0) fmz1) fmz2), (hdz2.trans (hdz1.trans (hdz0.trans rfl))), ?_, ?_⟩
      · rw [kz0, bd_some, kz1, bd_some, kz2, bd_some]
      · rw [eR, oz0, bd_some, oz1, bd_some, oz2, bd_some]
        exact e9
      · refine ⟨?_, fun j => ?_, fun j => ?_, fun j => ?_, fun j => ?_, ?_, ?_, ?_, ?_, fun j hj => ?_⟩
        · simp only [M_cd_mk, M_number_mk, M_codeSort_mk, M_codeA_mk, M_codeB_mk, M_codeC_mk, M_codeName_mk, M_codePlace_mk, M_codeTo_mk, M_labelName_mk, M_labelAt_mk, M_data_mk, E]
        · simp only [M_cd_mk, M_number_mk, M_codeSort_mk, M_codeA_mk, M_codeB_mk, M_codeC_mk, M_codeName_mk, M_codePlace_mk, M_codeTo_mk, M_labelName_mk, M_labelAt_mk, M_data_mk, E, upd_upd]
        · simp only [M_cd_mk, M_number_mk, M_codeSort_mk, M_codeA_mk, M_codeB_mk, M_codeC_mk, M_codeName_mk, M_codePlace_mk, M_codeTo_mk, M_labelName_mk, M_labelAt_mk, M_data_mk, E, upd_upd]
        · simp only [M_cd_mk, M_number_mk, M_codeSort_mk, M_codeA_mk, M_codeB_mk, M_codeC_mk, M_codeName_mk, M_codePlace_mk, M_codeTo_mk, M_labelName_mk, M_labelAt_mk, M_data_mk, E, upd_upd]
        · simp only [M_cd_mk, M_number_mk, M_codeSort_mk, M_codeA_mk, M_codeB_mk, M_codeC_mk, M_codeName_mk, M_codePlace_mk, M_codeTo_mk, M_labelName_mk, M_labelAt_mk, M_data_mk, E, upd_upd]
        · simp only [M_cd_mk, M_number_mk, M_codeSort_mk, M_codeA_mk, M_codeB_mk, M_codeC_mk, M_codeName_mk, M_codePlace_mk, M_codeTo_mk, M_labelName_mk, M_labelAt_mk, M_data_mk, E]
        · simp only [M_cd_mk, M_number_mk, M_codeSort_mk, M_codeA_mk, M_codeB_mk, M_codeC_mk, M_codeName_mk, M_codePlace_mk, M_codeTo_mk, M_labelName_mk, M_labelAt_mk, M_data_mk, E]
        · simp only [M_cd_mk, M_number_mk, M_codeSort_mk, M_codeA_mk, M_codeB_mk, M_codeC_mk, M_codeName_mk, M_codePlace_mk, M_codeTo_mk, M_labelName_mk, M_labelAt_mk, M_data_mk, E]
        · simp only [M_cd_mk, M_number_mk, M_codeSort_mk, M_codeA_mk, M_codeB_mk, M_codeC_mk, M_codeName_mk, M_codePlace_mk, M_codeTo_mk, M_labelName_mk, M_labelAt_mk, M_data_mk, E]
        · simp only [M_cd_mk, M_number_mk, M_codeSort_mk, M_codeA_mk, M_codeB_mk, M_codeC_mk, M_codeName_mk, M_codePlace_mk, M_codeTo_mk, M_labelName_mk, M_labelAt_mk, M_data_mk, E]; exact ⟨trivial, trivial⟩
      · exact Or.inr bdz2
  · skip
    obtain ⟨sz1, kz1, oz1, bdz1, fmz1, cdz1, hdz1⟩ := BB bdz0 pr (NN 9) (NN 1) (40 + sz) 7
    obtain ⟨sz2, kz2, oz2, bdz2, fmz2, cdz2, hdz2⟩ := BC bdz1 pr (NN 9) (NN 2) (40 + sz) 7
    have E : M_cd sz2 = cC (cB (cA (c0 (M_cd m) (40 + sz) (NN 8)) (40 + sz) (NN 0)) (40 + sz) (NN 0)) (40 + sz) (NN 0) := by rw [cdz2, cdz1, cdz0, hcb]
    have E8 : M_number (M_cd sz2) 18 = NN sz := by rw [E]; exact h8
    have e9 := fin8_eq E8
    refine ⟨rz0, F9 sz2 sz, (NN 0), (NN 0), (NN 0), fun K => ?_, ?_, (FR1_trans (FR1_refl rd0) frz0), (FM1_trans (FM1_trans (FM1_trans (FM1_refl m1) fmz0) fmz1) fmz2), (hdz2.trans (hdz1.trans (hdz0.trans rfl))), ?_, ?_⟩
    · rw [kz0, bd_some, kz1, bd_some, kz2, bd_some]
    · rw [eR, oz0, bd_some, oz1, bd_some, oz2, bd_some]
      exact e9
    · refine ⟨?_, fun j => ?_, fun j => ?_, fun j => ?_, fun j => ?_, ?_, ?_, ?_, ?_, fun j hj => ?_⟩
      · simp only [M_cd_mk, M_number_mk, M_codeSort_mk, M_codeA_mk, M_codeB_mk, M_codeC_mk, M_codeName_mk, M_codePlace_mk, M_codeTo_mk, M_labelName_mk, M_labelAt_mk, M_data_mk, E]
      · simp only [M_cd_mk, M_number_mk, M_codeSort_mk, M_codeA_mk, M_codeB_mk, M_codeC_mk, M_codeName_mk, M_codePlace_mk, M_codeTo_mk, M_labelName_mk, M_labelAt_mk, M_data_mk, E, upd_upd]
      · simp only [M_cd_mk, M_number_mk, M_codeSort_mk, M_codeA_mk, M_codeB_mk, M_codeC_mk, M_codeName_mk, M_codePlace_mk, M_codeTo_mk, M_labelName_mk, M_labelAt_mk, M_data_mk, E, upd_upd]
      · simp only [M_cd_mk, M_number_mk, M_codeSort_mk, M_codeA_mk, M_codeB_mk, M_codeC_mk, M_codeName_mk, M_codePlace_mk, M_codeTo_mk, M_labelName_mk, M_labelAt_mk, M_data_mk, E, upd_upd]
      · simp only [M_cd_mk, M_number_mk, M_codeSort_mk, M_codeA_mk, M_codeB_mk, M_codeC_mk, M_codeName_mk, M_codePlace_mk, M_codeTo_mk, M_labelName_mk, M_labelAt_mk, M_data_mk, E, upd_upd]
      · simp only [M_cd_mk, M_number_mk, M_codeSort_mk, M_codeA_mk, M_codeB_mk, M_codeC_mk, M_codeName_mk, M_codePlace_mk, M_codeTo_mk, M_labelName_mk, M_labelAt_mk, M_data_mk, E]
      · simp only [M_cd_mk, M_number_mk, M_codeSort_mk, M_codeA_mk, M_codeB_mk, M_codeC_mk, M_codeName_mk, M_codePlace_mk, M_codeTo_mk, M_labelName_mk, M_labelAt_mk, M_data_mk, E]
      · simp only [M_cd_mk, M_number_mk, M_codeSort_mk, M_codeA_mk, M_codeB_mk, M_codeC_mk, M_codeName_mk, M_codePlace_mk, M_codeTo_mk, M_labelName_mk, M_labelAt_mk, M_data_mk, E]
      · simp only [M_cd_mk, M_number_mk, M_codeSort_mk, M_codeA_mk, M_codeB_mk, M_codeC_mk, M_codeName_mk, M_codePlace_mk, M_codeTo_mk, M_labelName_mk, M_labelAt_mk, M_data_mk, E]
      · simp only [M_cd_mk, M_number_mk, M_codeSort_mk, M_codeA_mk, M_codeB_mk, M_codeC_mk, M_codeName_mk, M_codePlace_mk, M_codeTo_mk, M_labelName_mk, M_labelAt_mk, M_data_mk, E]; exact ⟨trivial, trivial⟩
    · exact Or.inr bdz2
set_option maxHeartbeats 4000000 in
theorem IL_10 {T : Nat → Nat} {n : Nat} {rd0 : T_Rd} {m1 m : T_M} {pl1 q1 sz : Nat} (hA : AH T n rd0 m1 pl1 q1) (hwd : WD rd0) (hsd : SD rd0) (hp0 : ∀ j, j < 3 → Rd_parts rd0 j = NN 0) (pr : T_Pg) (hps : Pg_size pr = NN sz) (hsz : sz < 40) (h8 : M_number (M_cd m) 18 = NN sz) (eg : f_M_goOn m = some m1) (hc : M_cd m1 = M_cd m) : IR T n rd0 m1 m pr 10 9 3 sz pl1 := by
  have hf1 := AH_M0 hA
  have eR := RC_9 h8 hsz eg hf1 hc
  have h0 : AH T n rd0 (sC m1 (c0 (M_cd m1) (40 + sz) (NN 9))) pl1 q1 := hA
  have hcb : M_cd (sC m1 (c0 (M_cd m1) (40 + sz) (NN 9))) = c0 (M_cd m) (40 + sz) (NN 9) := by rw [hc]; rfl
  rcases JA h0 pr (40 + sz) (w := 10) (k := 0) (s := 114) (hi := 7) (by omega) (by omega) ((congrFun ((FR1_refl rd0)).2.2.2.1 _).trans (hsd 30 (by omega))) (Or.inr (Or.inr (Or.inr (Or.inr (Or.inr (Or.inl ⟨rfl, rfl, rfl⟩)))))) with ⟨rz0, sz0, Vz0, plz0, qz0, vz0, kz0, oz0, ahz0, lez0, frz0, fmz0, pez0, waz0, tdz0, cdz0, hdz0⟩ | ⟨rz0, sz0, kz0, oz0, bdz0, frz0, fmz0, cdz0, hdz0⟩
  · skip
    rcases JB ahz0 pr (40 + sz) (w := 10) (k := 1) (s := 114) (hi := 7) (by omega) (by omega) ((congrFun ((FR1_trans (FR1_refl rd0) frz0)).2.2.2.1 _).trans (hsd 31 (by omega))) (Or.inr (Or.inr (Or.inr (Or.inr (Or.inr (Or.inl ⟨rfl, rfl, rfl⟩)))))) with ⟨rz1, sz1, Vz1, plz1, qz1, vz1, kz1, oz1, ahz1, lez1, frz1, fmz1, pez1, waz1, tdz1, cdz1, hdz1⟩ | ⟨rz1, sz1, kz1, oz1, bdz1, frz1, fmz1, cdz1, hdz1⟩
    · skip
      rcases JC ahz1 pr (40 + sz) (w := 10) (k := 2) (s := 114) (hi := 7) (by omega) (by omega) ((congrFun ((FR1_trans (FR1_trans (FR1_refl rd0) frz0) frz1)).2.2.2.1 _).trans (hsd 32 (by omega))) (Or.inr (Or.inr (Or.inr (Or.inr (Or.inr (Or.inl ⟨rfl, rfl, rfl⟩)))))) with ⟨rz2, sz2, Vz2, plz2, qz2, vz2, kz2, oz2, ahz2, lez2, frz2, fmz2, pez2, waz2, tdz2, cdz2, hdz2⟩ | ⟨rz2, sz2, kz2, oz2, bdz2, frz2, fmz2, cdz2, hdz2⟩
      · skip
        have E : M_cd sz2 = cC (cB (cA (c0 (M_cd m) (40 + sz) (NN 9)) (40 + sz) (NN Vz0)) (40 + sz) (NN Vz1)) (40 + sz) (NN Vz2) := by rw [cdz2, cdz1, cdz0, hcb]
        have E8 : M_number (M_cd sz2) 18 = NN sz := by rw [E]; exact h8
        have e9 := fin8_eq E8
        refine ⟨rz2, F9 sz2 sz, (NN Vz0), (NN Vz1), (NN Vz2), fun K => ?_, ?_, (FR1_trans (FR1_trans (FR1_trans (FR1_refl rd0) frz0) frz1) frz2), (FM1_trans (FM1_trans (FM1_trans (FM1_refl m1) fmz0) fmz1) fmz2), (hdz2.trans (hdz1.trans (hdz0.trans rfl))), ?_, ?_⟩
        · rw [kz0, bd_some, kz1, bd_some, kz2, bd_some]
        · rw [eR, oz0, bd_some, oz1, bd_some, oz2, bd_some]
          exact e9
        · refine ⟨?_, fun j => ?_, fun j => ?_, fun j => ?_, fun j => ?_, ?_, ?_, ?_, ?_, fun j hj => ?_⟩
          · simp only [M_cd_mk, M_number_mk, M_codeSort_mk, M_codeA_mk, M_codeB_mk, M_codeC_mk, M_codeName_mk, M_codePlace_mk, M_codeTo_mk, M_labelName_mk, M_labelAt_mk, M_data_mk, E]
          · simp only [M_cd_mk, M_number_mk, M_codeSort_mk, M_codeA_mk, M_codeB_mk, M_codeC_mk, M_codeName_mk, M_codePlace_mk, M_codeTo_mk, M_labelName_mk, M_labelAt_mk, M_data_mk, E, upd_upd]
          · simp only [M_cd_mk, M_number_mk, M_codeSort_mk, M_codeA_mk, M_codeB_mk, M_codeC_mk, M_codeName_mk, M_codePlace_mk, M_codeTo_mk, M_labelName_mk, M_labelAt_mk, M_data_mk, E, upd_upd]
          · simp only [M_cd_mk, M_number_mk, M_codeSort_mk, M_codeA_mk, M_codeB_mk, M_codeC_mk, M_codeName_mk, M_codePlace_mk, M_codeTo_mk, M_labelName_mk, M_labelAt_mk, M_data_mk, E, upd_upd]
          · simp only [M_cd_mk, M_number_mk, M_codeSort_mk, M_codeA_mk, M_codeB_mk, M_codeC_mk, M_codeName_mk, M_codePlace_mk, M_codeTo_mk, M_labelName_mk, M_labelAt_mk, M_data_mk, E, upd_upd]
          · simp only [M_cd_mk, M_number_mk, M_codeSort_mk, M_codeA_mk, M_codeB_mk, M_codeC_mk, M_codeName_mk, M_codePlace_mk, M_codeTo_mk, M_labelName_mk, M_labelAt_mk, M_data_mk, E]
          · simp only [M_cd_mk, M_number_mk, M_codeSort_mk, M_codeA_mk, M_codeB_mk, M_codeC_mk, M_codeName_mk, M_codePlace_mk, M_codeTo_mk, M_labelName_mk, M_labelAt_mk, M_data_mk, E]
          · simp only [M_cd_mk, M_number_mk, M_codeSort_mk, M_codeA_mk, M_codeB_mk, M_codeC_mk, M_codeName_mk, M_codePlace_mk, M_codeTo_mk, M_labelName_mk, M_labelAt_mk, M_data_mk, E]
          · simp only [M_cd_mk, M_number_mk, M_codeSort_mk, M_codeA_mk, M_codeB_mk, M_codeC_mk, M_codeName_mk, M_codePlace_mk, M_codeTo_mk, M_labelName_mk, M_labelAt_mk, M_data_mk, E]
          · simp only [M_cd_mk, M_number_mk, M_codeSort_mk, M_codeA_mk, M_codeB_mk, M_codeC_mk, M_codeName_mk, M_codePlace_mk, M_codeTo_mk, M_labelName_mk, M_labelAt_mk, M_data_mk, E]; exact ⟨trivial, trivial⟩
        · refine Or.inl ⟨plz2, qz2, ahz2, (Nat.le_trans (Nat.le_trans (Nat.le_trans (Nat.le_refl pl1) lez0) lez1) lez2), (tdz2.trans (tdz1.trans (tdz0.trans rfl))), ⟨Vz0, Vz1, Vz2, ?_, rfl, rfl, ?_, ?_, ?_, ?_⟩⟩
          · refine ⟨by omega, by omega, by omega, by omega, ?_, ?_, ?_, ?_, ?_, ?_, ?_⟩ <;> omega
          · rw [pez2, upd_ne (by omega)]; rw [pez1, upd_ne (by omega)]; rw [pez0]; exact upd_at rfl
          · rw [pez2, upd_ne (by omega)]; rw [pez1]; exact upd_at rfl
          · intro _
            refine ⟨rfl, ?_, (waz2.trans (waz1.trans waz0))⟩
            rw [pez2]; exact upd_at rfl
          · intro hx; omega
      · skip
        have E : M_cd sz2 = cC (cB (cA (c0 (M_cd m) (40 + sz) (NN 9)) (40 + sz) (NN Vz0)) (40 + sz) (NN Vz1)) (40 + sz) (NN 0) := by rw [cdz2, cdz1, cdz0, hcb]
        have E8 : M_number (M_cd sz2) 18 = NN sz := by rw [E]; exact h8
        have e9 := fin8_eq E8
        refine ⟨rz2, F9 sz2 sz, (NN Vz0), (NN Vz1), (NN 0), fun K => ?_, ?_, (FR1_trans (FR1_trans (FR1_trans (FR1_refl rd0) frz0) frz1) frz2), (FM1_trans (FM1_trans (FM1_trans (FM1_refl m1) fmz0) fmz1) fmz2), (hdz2.trans (hdz1.trans (hdz0.trans rfl))), ?_, ?_⟩
        · rw [kz0, bd_some, kz1, bd_some, kz2, bd_some]
        · rw [eR, oz0, bd_some, oz1, bd_some, oz2, bd_some]
          exact e9
        · refine ⟨?_, fun j => ?_, fun j => ?_, fun j => ?_, fun j => ?_, ?_, ?_, ?_, ?_, fun j hj => ?_⟩
          · simp only [M_cd_mk, M_number_mk, M_codeSort_mk, M_codeA_mk, M_codeB_mk, M_codeC_mk, M_codeName_mk, M_codePlace_mk, M_codeTo_mk, M_labelName_mk, M_labelAt_mk, M_data_mk, E]
          · simp only [M_cd_mk, M_number_mk, M_codeSort_mk, M_codeA_mk, M_codeB_mk, M_codeC_mk, M_codeName_mk, M_codePlace_mk, M_codeTo_mk, M_labelName_mk, M_labelAt_mk, M_data_mk, E, upd_upd]
          · simp only [M_cd_mk, M_number_mk, M_codeSort_mk, M_codeA_mk, M_codeB_mk, M_codeC_mk, M_codeName_mk, M_codePlace_mk, M_codeTo_mk, M_labelName_mk, M_labelAt_mk, M_data_mk, E, upd_upd]
          · simp only [M_cd_mk, M_number_mk, M_codeSort_mk, M_codeA_mk, M_codeB_mk, M_codeC_mk, M_codeName_mk, M_codePlace_mk, M_codeTo_mk, M_labelName_mk, M_labelAt_mk, M_data_mk, E, upd_upd]
          · simp only [M_cd_mk, M_number_mk, M_codeSort_mk, M_codeA_mk, M_codeB_mk, M_codeC_mk, M_codeName_mk, M_codePlace_mk, M_codeTo_mk, M_labelName_mk, M_labelAt_mk, M_data_mk, E, upd_upd]
          · simp only [M_cd_mk, M_number_mk, M_codeSort_mk, M_codeA_mk, M_codeB_mk, M_codeC_mk, M_codeName_mk, M_codePlace_mk, M_codeTo_mk, M_labelName_mk, M_labelAt_mk, M_data_mk, E]
          · simp only [M_cd_mk, M_number_mk, M_codeSort_mk, M_codeA_mk, M_codeB_mk, M_codeC_mk, M_codeName_mk, M_codePlace_mk, M_codeTo_mk, M_labelName_mk, M_labelAt_mk, M_data_mk, E]
          · simp only [M_cd_mk, M_number_mk, M_codeSort_mk, M_codeA_mk, M_codeB_mk, M_codeC_mk, M_codeName_mk, M_codePlace_mk, M_codeTo_mk, M_labelName_mk, M_labelAt_mk, M_data_mk, E]
          · simp only [M_cd_mk, M_number_mk, M_codeSort_mk, M_codeA_mk, M_codeB_mk, M_codeC_mk, M_codeName_mk, M_codePlace_mk, M_codeTo_mk, M_labelName_mk, M_labelAt_mk, M_data_mk, E]
          · simp only [M_cd_mk, M_number_mk, M_codeSort_mk, M_codeA_mk, M_codeB_mk, M_codeC_mk, M_codeName_mk, M_codePlace_mk, M_codeTo_mk, M_labelName_mk, M_labelAt_mk, M_data_mk, E]; exact ⟨trivial, trivial⟩
        · exact Or.inr bdz2
    · skip
      obtain ⟨sz2, kz2, oz2, bdz2, fmz2, cdz2, hdz2⟩ := BC bdz1 pr (NN 10) (NN 2) (40 + sz) 7
      have E : M_cd sz2 = cC (cB (cA (c0 (M_cd m) (40 + sz) (NN 9)) (40 + sz) (NN Vz0)) (40 + sz) (NN 0)) (40 + sz) (NN 0) := by rw [cdz2, cdz1, cdz0, hcb]
      have E8 : M_number (M_cd sz2) 18 = NN sz := by rw [E]; exact h8
      have e9 := fin8_eq E8
      refine ⟨rz1, F9 sz2 sz, (NN Vz0), (NN 0), (NN 0), fun K => ?_, ?_, (FR1_trans (FR1_trans (FR1_refl rd0) frz0) frz1), (FM1_trans (FM1_trans (FM1_trans (FM1_refl m1) fmz0) fmz1) fmz2), (hdz2.trans (hdz1.trans (hdz0.trans rfl))), ?_, ?_⟩
      · rw [kz0, bd_some, kz1, bd_some, kz2, bd_some]
      · rw [eR, oz0, bd_some, oz1, bd_some, oz2, bd_some]
        exact e9
      · refine ⟨?_, fun j => ?_, fun j => ?_, fun j => ?_, fun j => ?_, ?_, ?_, ?_, ?_, fun j hj => ?_⟩
        · simp only [M_cd_mk, M_number_mk, M_codeSort_mk, M_codeA_mk, M_codeB_mk, M_codeC_mk, M_codeName_mk, M_codePlace_mk, M_codeTo_mk, M_labelName_mk, M_labelAt_mk, M_data_mk, E]
        · simp only [M_cd_mk, M_number_mk, M_codeSort_mk, M_codeA_mk, M_codeB_mk, M_codeC_mk, M_codeName_mk, M_codePlace_mk, M_codeTo_mk, M_labelName_mk, M_labelAt_mk, M_data_mk, E, upd_upd]
        · simp only [M_cd_mk, M_number_mk, M_codeSort_mk, M_codeA_mk, M_codeB_mk, M_codeC_mk, M_codeName_mk, M_codePlace_mk, M_codeTo_mk, M_labelName_mk, M_labelAt_mk, M_data_mk, E, upd_upd]
        · simp only [M_cd_mk, M_number_mk, M_codeSort_mk, M_codeA_mk, M_codeB_mk, M_codeC_mk, M_codeName_mk, M_codePlace_mk, M_codeTo_mk, M_labelName_mk, M_labelAt_mk, M_data_mk, E, upd_upd]
        · simp only [M_cd_mk, M_number_mk, M_codeSort_mk, M_codeA_mk, M_codeB_mk, M_codeC_mk, M_codeName_mk, M_codePlace_mk, M_codeTo_mk, M_labelName_mk, M_labelAt_mk, M_data_mk, E, upd_upd]
        · simp only [M_cd_mk, M_number_mk, M_codeSort_mk, M_codeA_mk, M_codeB_mk, M_codeC_mk, M_codeName_mk, M_codePlace_mk, M_codeTo_mk, M_labelName_mk, M_labelAt_mk, M_data_mk, E]
        · simp only [M_cd_mk, M_number_mk, M_codeSort_mk, M_codeA_mk, M_codeB_mk, M_codeC_mk, M_codeName_mk, M_codePlace_mk, M_codeTo_mk, M_labelName_mk, M_labelAt_mk, M_data_mk, E]
        · simp only [M_cd_mk, M_number_mk, M_codeSort_mk, M_codeA_mk, M_codeB_mk, M_codeC_mk, M_codeName_mk, M_codePlace_mk, M_codeTo_mk, M_labelName_mk, M_labelAt_mk, M_data_mk, E]
        · simp only [M_cd_mk, M_number_mk, M_codeSort_mk, M_codeA_mk, M_codeB_mk, M_codeC_mk, M_codeName_mk, M_codePlace_mk, M_codeTo_mk, M_labelName_mk, M_labelAt_mk, M_data_mk, E]
        · simp only [M_cd_mk, M_number_mk, M_codeSort_mk, M_codeA_mk, M_codeB_mk, M_codeC_mk, M_codeName_mk, M_codePlace_mk, M_codeTo_mk, M_labelName_mk, M_labelAt_mk, M_data_mk, E]; exact ⟨trivial, trivial⟩
      · exact Or.inr bdz2
  · skip
    obtain ⟨sz1, kz1, oz1, bdz1, fmz1, cdz1, hdz1⟩ := BB bdz0 pr (NN 10) (NN 1) (40 + sz) 7
    obtain ⟨sz2, kz2, oz2, bdz2, fmz2, cdz2, hdz2⟩ := BC bdz1 pr (NN 10) (NN 2) (40 + sz) 7
    have E : M_cd sz2 = cC (cB (cA (c0 (M_cd m) (40 + sz) (NN 9)) (40 + sz) (NN 0)) (40 + sz) (NN 0)) (40 + sz) (NN 0) := by rw [cdz2, cdz1, cdz0, hcb]
    have E8 : M_number (M_cd sz2) 18 = NN sz := by rw [E]; exact h8
    have e9 := fin8_eq E8
    refine ⟨rz0, F9 sz2 sz, (NN 0), (NN 0), (NN 0), fun K => ?_, ?_, (FR1_trans (FR1_refl rd0) frz0), (FM1_trans (FM1_trans (FM1_trans (FM1_refl m1) fmz0) fmz1) fmz2), (hdz2.trans (hdz1.trans (hdz0.trans rfl))), ?_, ?_⟩
    · rw [kz0, bd_some, kz1, bd_some, kz2, bd_some]
    · rw [eR, oz0, bd_some, oz1, bd_some, oz2, bd_some]
      exact e9
    · refine ⟨?_, fun j => ?_, fun j => ?_, fun j => ?_, fun j => ?_, ?_, ?_, ?_, ?_, fun j hj => ?_⟩
      · simp only [M_cd_mk, M_number_mk, M_codeSort_mk, M_codeA_mk, M_codeB_mk, M_codeC_mk, M_codeName_mk, M_codePlace_mk, M_codeTo_mk, M_labelName_mk, M_labelAt_mk, M_data_mk, E]
      · simp only [M_cd_mk, M_number_mk, M_codeSort_mk, M_codeA_mk, M_codeB_mk, M_codeC_mk, M_codeName_mk, M_codePlace_mk, M_codeTo_mk, M_labelName_mk, M_labelAt_mk, M_data_mk, E, upd_upd]
      · simp only [M_cd_mk, M_number_mk, M_codeSort_mk, M_codeA_mk, M_codeB_mk, M_codeC_mk, M_codeName_mk, M_codePlace_mk, M_codeTo_mk, M_labelName_mk, M_labelAt_mk, M_data_mk, E, upd_upd]
      · simp only [M_cd_mk, M_number_mk, M_codeSort_mk, M_codeA_mk, M_codeB_mk, M_codeC_mk, M_codeName_mk, M_codePlace_mk, M_codeTo_mk, M_labelName_mk, M_labelAt_mk, M_data_mk, E, upd_upd]
      · simp only [M_cd_mk, M_number_mk, M_codeSort_mk, M_codeA_mk, M_codeB_mk, M_codeC_mk, M_codeName_mk, M_codePlace_mk, M_codeTo_mk, M_labelName_mk, M_labelAt_mk, M_data_mk, E, upd_upd]
      · simp only [M_cd_mk, M_number_mk, M_codeSort_mk, M_codeA_mk, M_codeB_mk, M_codeC_mk, M_codeName_mk, M_codePlace_mk, M_codeTo_mk, M_labelName_mk, M_labelAt_mk, M_data_mk, E]
      · simp only [M_cd_mk, M_number_mk, M_codeSort_mk, M_codeA_mk, M_codeB_mk, M_codeC_mk, M_codeName_mk, M_codePlace_mk, M_codeTo_mk, M_labelName_mk, M_labelAt_mk, M_data_mk, E]
      · simp only [M_cd_mk, M_number_mk, M_codeSort_mk, M_codeA_mk, M_codeB_mk, M_codeC_mk, M_codeName_mk, M_codePlace_mk, M_codeTo_mk, M_labelName_mk, M_labelAt_mk, M_data_mk, E]
      · simp only [M_cd_mk, M_number_mk, M_codeSort_mk, M_codeA_mk, M_codeB_mk, M_codeC_mk, M_codeName_mk, M_codePlace_mk, M_codeTo_mk, M_labelName_mk, M_labelAt_mk, M_data_mk, E]
      · simp only [M_cd_mk, M_number_mk, M_codeSort_mk, M_codeA_mk, M_codeB_mk, M_codeC_mk, M_codeName_mk, M_codePlace_mk, M_codeTo_mk, M_labelName_mk, M_labelAt_mk, M_data_mk, E]; exact ⟨trivial, trivial⟩
    · exact Or.inr bdz2
set_option maxHeartbeats 4000000 in
theorem IL_11 {T : Nat → Nat} {n : Nat} {rd0 : T_Rd} {m1 m : T_M} {pl1 q1 sz : Nat} (hA : AH T n rd0 m1 pl1 q1) (hwd : WD rd0) (hsd : SD rd0) (hp0 : ∀ j, j < 3 → Rd_parts rd0 j = NN 0) (pr : T_Pg) (hps : Pg_size pr = NN sz) (hsz : sz < 40) (h8 : M_number (M_cd m) 18 = NN sz) (eg : f_M_goOn m = some m1) (hc : M_cd m1 = M_cd m) : IR T n rd0 m1 m pr 11 10 4 sz pl1 := by
  have hf1 := AH_M0 hA
  have eR := RC_10 h8 hsz eg hf1 hc
  have h0 : AH T n rd0 (sC m1 (c0 (M_cd m1) (40 + sz) (NN 10))) pl1 q1 := hA
  have hcb : M_cd (sC m1 (c0 (M_cd m1) (40 + sz) (NN 10))) = c0 (M_cd m) (40 + sz) (NN 10) := by rw [hc]; rfl
  rcases JA h0 pr (40 + sz) (w := 11) (k := 0) (s := 114) (hi := 7) (by omega) (by omega) ((congrFun ((FR1_refl rd0)).2.2.2.1 _).trans (hsd 33 (by omega))) (Or.inr (Or.inr (Or.inr (Or.inr (Or.inr (Or.inl ⟨rfl, rfl, rfl⟩)))))) with ⟨rz0, sz0, Vz0, plz0, qz0, vz0, kz0, oz0, ahz0, lez0, frz0, fmz0, pez0, waz0, tdz0, cdz0, hdz0⟩ | ⟨rz0, sz0, kz0, oz0, bdz0, frz0, fmz0, cdz0, hdz0⟩
  · skip
    rcases JB ahz0 pr (40 + sz) (w := 11) (k := 1) (s := 114) (hi := 7) (by omega) (by omega) ((congrFun ((FR1_trans (FR1_refl rd0) frz0)).2.2.2.1 _).trans (hsd 34 (by omega))) (Or.inr (Or.inr (Or.inr (Or.inr (Or.inr (Or.inl ⟨rfl, rfl, rfl⟩)))))) with ⟨rz1, sz1, Vz1, plz1, qz1, vz1, kz1, oz1, ahz1, lez1, frz1, fmz1, pez1, waz1, tdz1, cdz1, hdz1⟩ | ⟨rz1, sz1, kz1, oz1, bdz1, frz1, fmz1, cdz1, hdz1⟩
    · skip
      rcases JC ahz1 pr (40 + sz) (w := 11) (k := 2) (s := 114) (hi := 7) (by omega) (by omega) ((congrFun ((FR1_trans (FR1_trans (FR1_refl rd0) frz0) frz1)).2.2.2.1 _).trans (hsd 35 (by omega))) (Or.inr (Or.inr (Or.inr (Or.inr (Or.inr (Or.inl ⟨rfl, rfl, rfl⟩)))))) with ⟨rz2, sz2, Vz2, plz2, qz2, vz2, kz2, oz2, ahz2, lez2, frz2, fmz2, pez2, waz2, tdz2, cdz2, hdz2⟩ | ⟨rz2, sz2, kz2, oz2, bdz2, frz2, fmz2, cdz2, hdz2⟩
      · skip
        have E : M_cd sz2 = cC (cB (cA (c0 (M_cd m) (40 + sz) (NN 10)) (40 + sz) (NN Vz0)) (40 + sz) (NN Vz1)) (40 + sz) (NN Vz2) := by rw [cdz2, cdz1, cdz0, hcb]
        have E8 : M_number (M_cd sz2) 18 = NN sz := by rw [E]; exact h8
        have e9 := fin8_eq E8
        refine ⟨rz2, F9 sz2 sz, (NN Vz0), (NN Vz1), (NN Vz2), fun K => ?_, ?_, (FR1_trans (FR1_trans (FR1_trans (FR1_refl rd0) frz0) frz1) frz2), (FM1_trans (FM1_trans (FM1_trans (FM1_refl m1) fmz0) fmz1) fmz2), (hdz2.trans (hdz1.trans (hdz0.trans rfl))), ?_, ?_⟩
        · rw [kz0, bd_some, kz1, bd_some, kz2, bd_some]
        · rw [eR, oz0, bd_some, oz1, bd_some, oz2, bd_some]
          exact e9
        · refine ⟨?_, fun j => ?_, fun j => ?_, fun j => ?_, fun j => ?_, ?_, ?_, ?_, ?_, fun j hj => ?_⟩
          · simp only [M_cd_mk, M_number_mk, M_codeSort_mk, M_codeA_mk, M_codeB_mk, M_codeC_mk, M_codeName_mk, M_codePlace_mk, M_codeTo_mk, M_labelName_mk, M_labelAt_mk, M_data_mk, E]
          · simp only [M_cd_mk, M_number_mk, M_codeSort_mk, M_codeA_mk, M_codeB_mk, M_codeC_mk, M_codeName_mk, M_codePlace_mk, M_codeTo_mk, M_labelName_mk, M_labelAt_mk, M_data_mk, E, upd_upd]
          · simp only [M_cd_mk, M_number_mk, M_codeSort_mk, M_codeA_mk, M_codeB_mk, M_codeC_mk, M_codeName_mk, M_codePlace_mk, M_codeTo_mk, M_labelName_mk, M_labelAt_mk, M_data_mk, E, upd_upd]
          · simp only [M_cd_mk, M_number_mk, M_codeSort_mk, M_codeA_mk, M_codeB_mk, M_codeC_mk, M_codeName_mk, M_codePlace_mk, M_codeTo_mk, M_labelName_mk, M_labelAt_mk, M_data_mk, E, upd_upd]
          · simp only [M_cd_mk, M_number_mk, M_codeSort_mk, M_codeA_mk, M_codeB_mk, M_codeC_mk, M_codeName_mk, M_codePlace_mk, M_codeTo_mk, M_labelName_mk, M_labelAt_mk, M_data_mk, E, upd_upd]
          · simp only [M_cd_mk, M_number_mk, M_codeSort_mk, M_codeA_mk, M_codeB_mk, M_codeC_mk, M_codeName_mk, M_codePlace_mk, M_codeTo_mk, M_labelName_mk, M_labelAt_mk, M_data_mk, E]
          · simp only [M_cd_mk, M_number_mk, M_codeSort_mk, M_codeA_mk, M_codeB_mk, M_codeC_mk, M_codeName_mk, M_codePlace_mk, M_codeTo_mk, M_labelName_mk, M_labelAt_mk, M_data_mk, E]
          · simp only [M_cd_mk, M_number_mk, M_codeSort_mk, M_codeA_mk, M_codeB_mk, M_codeC_mk, M_codeName_mk, M_codePlace_mk, M_codeTo_mk, M_labelName_mk, M_labelAt_mk, M_data_mk, E]
          · simp only [M_cd_mk, M_number_mk, M_codeSort_mk, M_codeA_mk, M_codeB_mk, M_codeC_mk, M_codeName_mk, M_codePlace_mk, M_codeTo_mk, M_labelName_mk, M_labelAt_mk, M_data_mk, E]
          · simp only [M_cd_mk, M_number_mk, M_codeSort_mk, M_codeA_mk, M_codeB_mk, M_codeC_mk, M_codeName_mk, M_codePlace_mk, M_codeTo_mk, M_labelName_mk, M_labelAt_mk, M_data_mk, E]; exact ⟨trivial, trivial⟩
        · refine Or.inl ⟨plz2, qz2, ahz2, (Nat.le_trans (Nat.le_trans (Nat.le_trans (Nat.le_refl pl1) lez0) lez1) lez2), (tdz2.trans (tdz1.trans (tdz0.trans rfl))), ⟨Vz0, Vz1, Vz2, ?_, rfl, rfl, ?_, ?_, ?_, ?_⟩⟩
          · refine ⟨by omega, by omega, by omega, by omega, ?_, ?_, ?_, ?_, ?_, ?_, ?_⟩ <;> omega
          · rw [pez2, upd_ne (by omega)]; rw [pez1, upd_ne (by omega)]; rw [pez0]; exact upd_at rfl
          · rw [pez2, upd_ne (by omega)]; rw [pez1]; exact upd_at rfl
          · intro _
            refine ⟨rfl, ?_, (waz2.trans (waz1.trans waz0))⟩
            rw [pez2]; exact upd_at rfl
          · intro hx; omega
      · skip
        have E : M_cd sz2 = cC (cB (cA (c0 (M_cd m) (40 + sz) (NN 10)) (40 + sz) (NN Vz0)) (40 + sz) (NN Vz1)) (40 + sz) (NN 0) := by rw [cdz2, cdz1, cdz0, hcb]
        have E8 : M_number (M_cd sz2) 18 = NN sz := by rw [E]; exact h8
        have e9 := fin8_eq E8
        refine ⟨rz2, F9 sz2 sz, (NN Vz0), (NN Vz1), (NN 0), fun K => ?_, ?_, (FR1_trans (FR1_trans (FR1_trans (FR1_refl rd0) frz0) frz1) frz2), (FM1_trans (FM1_trans (FM1_trans (FM1_refl m1) fmz0) fmz1) fmz2), (hdz2.trans (hdz1.trans (hdz0.trans rfl))), ?_, ?_⟩
        · rw [kz0, bd_some, kz1, bd_some, kz2, bd_some]
        · rw [eR, oz0, bd_some, oz1, bd_some, oz2, bd_some]
          exact e9
        · refine ⟨?_, fun j => ?_, fun j => ?_, fun j => ?_, fun j => ?_, ?_, ?_, ?_, ?_, fun j hj => ?_⟩
          · simp only [M_cd_mk, M_number_mk, M_codeSort_mk, M_codeA_mk, M_codeB_mk, M_codeC_mk, M_codeName_mk, M_codePlace_mk, M_codeTo_mk, M_labelName_mk, M_labelAt_mk, M_data_mk, E]
          · simp only [M_cd_mk, M_number_mk, M_codeSort_mk, M_codeA_mk, M_codeB_mk, M_codeC_mk, M_codeName_mk, M_codePlace_mk, M_codeTo_mk, M_labelName_mk, M_labelAt_mk, M_data_mk, E, upd_upd]
          · simp only [M_cd_mk, M_number_mk, M_codeSort_mk, M_codeA_mk, M_codeB_mk, M_codeC_mk, M_codeName_mk, M_codePlace_mk, M_codeTo_mk, M_labelName_mk, M_labelAt_mk, M_data_mk, E, upd_upd]
          · simp only [M_cd_mk, M_number_mk, M_codeSort_mk, M_codeA_mk, M_codeB_mk, M_codeC_mk, M_codeName_mk, M_codePlace_mk, M_codeTo_mk, M_labelName_mk, M_labelAt_mk, M_data_mk, E, upd_upd]
          · simp only [M_cd_mk, M_number_mk, M_codeSort_mk, M_codeA_mk, M_codeB_mk, M_codeC_mk, M_codeName_mk, M_codePlace_mk, M_codeTo_mk, M_labelName_mk, M_labelAt_mk, M_data_mk, E, upd_upd]
          · simp only [M_cd_mk, M_number_mk, M_codeSort_mk, M_codeA_mk, M_codeB_mk, M_codeC_mk, M_codeName_mk, M_codePlace_mk, M_codeTo_mk, M_labelName_mk, M_labelAt_mk, M_data_mk, E]
          · simp only [M_cd_mk, M_number_mk, M_codeSort_mk, M_codeA_mk, M_codeB_mk, M_codeC_mk, M_codeName_mk, M_codePlace_mk, M_codeTo_mk, M_labelName_mk, M_labelAt_mk, M_data_mk, E]
          · simp only [M_cd_mk, M_number_mk, M_codeSort_mk, M_codeA_mk, M_codeB_mk, M_codeC_mk, M_codeName_mk, M_codePlace_mk, M_codeTo_mk, M_labelName_mk, M_labelAt_mk, M_data_mk, E]
          · simp only [M_cd_mk, M_number_mk, M_codeSort_mk, M_codeA_mk, M_codeB_mk, M_codeC_mk, M_codeName_mk, M_codePlace_mk, M_codeTo_mk, M_labelName_mk, M_labelAt_mk, M_data_mk, E]
          · simp only [M_cd_mk, M_number_mk, M_codeSort_mk, M_codeA_mk, M_codeB_mk, M_codeC_mk, M_codeName_mk, M_codePlace_mk, M_codeTo_mk, M_labelName_mk, M_labelAt_mk, M_data_mk, E]; exact ⟨trivial, trivial⟩
        · exact Or.inr bdz2
    · skip
      obtain ⟨sz2, kz2, oz2, bdz2, fmz2, cdz2, hdz2⟩ := BC bdz1 pr (NN 11) (NN 2) (40 + sz) 7
      have E : M_cd sz2 = cC (cB (cA (c0 (M_cd m) (40 + sz) (NN 10)) (40 + sz) (NN Vz0)) (40 + sz) (NN 0)) (40 + sz) (NN 0) := by rw [cdz2, cdz1, cdz0, hcb]
      have E8 : M_number (M_cd sz2) 18 = NN sz := by rw [E]; exact h8
      have e9 := fin8_eq E8
      refine ⟨rz1, F9 sz2 sz, (NN Vz0), (NN 0), (NN 0), fun K => ?_, ?_, (FR1_trans (FR1_trans (FR1_refl rd0) frz0) frz1), (FM1_trans (FM1_trans (FM1_trans (FM1_refl m1) fmz0) fmz1) fmz2), (hdz2.trans (hdz1.trans (hdz0.trans rfl))), ?_, ?_⟩
      · rw [kz0, bd_some, kz1, bd_some, kz2, bd_some]
      · rw [eR, oz0, bd_some, oz1, bd_some, oz2, bd_some]
        exact e9
      · refine ⟨?_, fun j => ?_, fun j => ?_, fun j => ?_, fun j => ?_, ?_, ?_, ?_, ?_, fun j hj => ?_⟩
        · simp only [M_cd_mk, M_number_mk, M_codeSort_mk, M_codeA_mk, M_codeB_mk, M_codeC_mk, M_codeName_mk, M_codePlace_mk, M_codeTo_mk, M_labelName_mk, M_labelAt_mk, M_data_mk, E]
        · simp only [M_cd_mk, M_number_mk, M_codeSort_mk, M_codeA_mk, M_codeB_mk, M_codeC_mk, M_codeName_mk, M_codePlace_mk, M_codeTo_mk, M_labelName_mk, M_labelAt_mk, M_data_mk, E, upd_upd]
        · simp only [M_cd_mk, M_number_mk, M_codeSort_mk, M_codeA_mk, M_codeB_mk, M_codeC_mk, M_codeName_mk, M_codePlace_mk, M_codeTo_mk, M_labelName_mk, M_labelAt_mk, M_data_mk, E, upd_upd]
        · simp only [M_cd_mk, M_number_mk, M_codeSort_mk, M_codeA_mk, M_codeB_mk, M_codeC_mk, M_codeName_mk, M_codePlace_mk, M_codeTo_mk, M_labelName_mk, M_labelAt_mk, M_data_mk, E, upd_upd]
        · simp only [M_cd_mk, M_number_mk, M_codeSort_mk, M_codeA_mk, M_codeB_mk, M_codeC_mk, M_codeName_mk, M_codePlace_mk, M_codeTo_mk, M_labelName_mk, M_labelAt_mk, M_data_mk, E, upd_upd]
        · simp only [M_cd_mk, M_number_mk, M_codeSort_mk, M_codeA_mk, M_codeB_mk, M_codeC_mk, M_codeName_mk, M_codePlace_mk, M_codeTo_mk, M_labelName_mk, M_labelAt_mk, M_data_mk, E]
        · simp only [M_cd_mk, M_number_mk, M_codeSort_mk, M_codeA_mk, M_codeB_mk, M_codeC_mk, M_codeName_mk, M_codePlace_mk, M_codeTo_mk, M_labelName_mk, M_labelAt_mk, M_data_mk, E]
        · simp only [M_cd_mk, M_number_mk, M_codeSort_mk, M_codeA_mk, M_codeB_mk, M_codeC_mk, M_codeName_mk, M_codePlace_mk, M_codeTo_mk, M_labelName_mk, M_labelAt_mk, M_data_mk, E]
        · simp only [M_cd_mk, M_number_mk, M_codeSort_mk, M_codeA_mk, M_codeB_mk, M_codeC_mk, M_codeName_mk, M_codePlace_mk, M_codeTo_mk, M_labelName_mk, M_labelAt_mk, M_data_mk, E]
        · simp only [M_cd_mk, M_number_mk, M_codeSort_mk, M_codeA_mk, M_codeB_mk, M_codeC_mk, M_codeName_mk, M_codePlace_mk, M_codeTo_mk, M_labelName_mk, M_labelAt_mk, M_data_mk, E]; exact ⟨trivial, trivial⟩
      · exact Or.inr bdz2
  · skip
    obtain ⟨sz1, kz1, oz1, bdz1, fmz1, cdz1, hdz1⟩ := BB bdz0 pr (NN 11) (NN 1) (40 + sz) 7
    obtain ⟨sz2, kz2, oz2, bdz2, fmz2, cdz2, hdz2⟩ := BC bdz1 pr (NN 11) (NN 2) (40 + sz) 7
    have E : M_cd sz2 = cC (cB (cA (c0 (M_cd m) (40 + sz) (NN 10)) (40 + sz) (NN 0)) (40 + sz) (NN 0)) (40 + sz) (NN 0) := by rw [cdz2, cdz1, cdz0, hcb]
    have E8 : M_number (M_cd sz2) 18 = NN sz := by rw [E]; exact h8
    have e9 := fin8_eq E8
    refine ⟨rz0, F9 sz2 sz, (NN 0), (NN 0), (NN 0), fun K => ?_, ?_, (FR1_trans (FR1_refl rd0) frz0), (FM1_trans (FM1_trans (FM1_trans (FM1_refl m1) fmz0) fmz1) fmz2), (hdz2.trans (hdz1.trans (hdz0.trans rfl))), ?_, ?_⟩
    · rw [kz0, bd_some, kz1, bd_some, kz2, bd_some]
    · rw [eR, oz0, bd_some, oz1, bd_some, oz2, bd_some]
      exact e9
    · refine ⟨?_, fun j => ?_, fun j => ?_, fun j => ?_, fun j => ?_, ?_, ?_, ?_, ?_, fun j hj => ?_⟩
      · simp only [M_cd_mk, M_number_mk, M_codeSort_mk, M_codeA_mk, M_codeB_mk, M_codeC_mk, M_codeName_mk, M_codePlace_mk, M_codeTo_mk, M_labelName_mk, M_labelAt_mk, M_data_mk, E]
      · simp only [M_cd_mk, M_number_mk, M_codeSort_mk, M_codeA_mk, M_codeB_mk, M_codeC_mk, M_codeName_mk, M_codePlace_mk, M_codeTo_mk, M_labelName_mk, M_labelAt_mk, M_data_mk, E, upd_upd]
      · simp only [M_cd_mk, M_number_mk, M_codeSort_mk, M_codeA_mk, M_codeB_mk, M_codeC_mk, M_codeName_mk, M_codePlace_mk, M_codeTo_mk, M_labelName_mk, M_labelAt_mk, M_data_mk, E, upd_upd]
      · simp only [M_cd_mk, M_number_mk, M_codeSort_mk, M_codeA_mk, M_codeB_mk, M_codeC_mk, M_codeName_mk, M_codePlace_mk, M_codeTo_mk, M_labelName_mk, M_labelAt_mk, M_data_mk, E, upd_upd]
      · simp only [M_cd_mk, M_number_mk, M_codeSort_mk, M_codeA_mk, M_codeB_mk, M_codeC_mk, M_codeName_mk, M_codePlace_mk, M_codeTo_mk, M_labelName_mk, M_labelAt_mk, M_data_mk, E, upd_upd]
      · simp only [M_cd_mk, M_number_mk, M_codeSort_mk, M_codeA_mk, M_codeB_mk, M_codeC_mk, M_codeName_mk, M_codePlace_mk, M_codeTo_mk, M_labelName_mk, M_labelAt_mk, M_data_mk, E]
      · simp only [M_cd_mk, M_number_mk, M_codeSort_mk, M_codeA_mk, M_codeB_mk, M_codeC_mk, M_codeName_mk, M_codePlace_mk, M_codeTo_mk, M_labelName_mk, M_labelAt_mk, M_data_mk, E]
      · simp only [M_cd_mk, M_number_mk, M_codeSort_mk, M_codeA_mk, M_codeB_mk, M_codeC_mk, M_codeName_mk, M_codePlace_mk, M_codeTo_mk, M_labelName_mk, M_labelAt_mk, M_data_mk, E]
      · simp only [M_cd_mk, M_number_mk, M_codeSort_mk, M_codeA_mk, M_codeB_mk, M_codeC_mk, M_codeName_mk, M_codePlace_mk, M_codeTo_mk, M_labelName_mk, M_labelAt_mk, M_data_mk, E]
      · simp only [M_cd_mk, M_number_mk, M_codeSort_mk, M_codeA_mk, M_codeB_mk, M_codeC_mk, M_codeName_mk, M_codePlace_mk, M_codeTo_mk, M_labelName_mk, M_labelAt_mk, M_data_mk, E]; exact ⟨trivial, trivial⟩
    · exact Or.inr bdz2
set_option maxHeartbeats 4000000 in
theorem IL_12 {T : Nat → Nat} {n : Nat} {rd0 : T_Rd} {m1 m : T_M} {pl1 q1 sz : Nat} (hA : AH T n rd0 m1 pl1 q1) (hwd : WD rd0) (hsd : SD rd0) (hp0 : ∀ j, j < 3 → Rd_parts rd0 j = NN 0) (pr : T_Pg) (hps : Pg_size pr = NN sz) (hsz : sz < 40) (h8 : M_number (M_cd m) 18 = NN sz) (eg : f_M_goOn m = some m1) (hc : M_cd m1 = M_cd m) : IR T n rd0 m1 m pr 12 11 5 sz pl1 := by
  have hf1 := AH_M0 hA
  have eR := RC_11 h8 hsz eg hf1 hc
  have h0 : AH T n rd0 (sC m1 (c0 (M_cd m1) (40 + sz) (NN 11))) pl1 q1 := hA
  have hcb : M_cd (sC m1 (c0 (M_cd m1) (40 + sz) (NN 11))) = c0 (M_cd m) (40 + sz) (NN 11) := by rw [hc]; rfl
  rcases JA h0 pr (40 + sz) (w := 12) (k := 0) (s := 114) (hi := 7) (by omega) (by omega) ((congrFun ((FR1_refl rd0)).2.2.2.1 _).trans (hsd 36 (by omega))) (Or.inr (Or.inr (Or.inr (Or.inr (Or.inr (Or.inl ⟨rfl, rfl, rfl⟩)))))) with ⟨rz0, sz0, Vz0, plz0, qz0, vz0, kz0, oz0, ahz0, lez0, frz0, fmz0, pez0, waz0, tdz0, cdz0, hdz0⟩ | ⟨rz0, sz0, kz0, oz0, bdz0, frz0, fmz0, cdz0, hdz0⟩
  · skip
    rcases JB ahz0 pr (40 + sz) (w := 12) (k := 1) (s := 114) (hi := 7) (by omega) (by omega) ((congrFun ((FR1_trans (FR1_refl rd0) frz0)).2.2.2.1 _).trans (hsd 37 (by omega))) (Or.inr (Or.inr (Or.inr (Or.inr (Or.inr (Or.inl ⟨rfl, rfl, rfl⟩)))))) with ⟨rz1, sz1, Vz1, plz1, qz1, vz1, kz1, oz1, ahz1, lez1, frz1, fmz1, pez1, waz1, tdz1, cdz1, hdz1⟩ | ⟨rz1, sz1, kz1, oz1, bdz1, frz1, fmz1, cdz1, hdz1⟩
    · skip
      rcases JC ahz1 pr (40 + sz) (w := 12) (k := 2) (s := 114) (hi := 7) (by omega) (by omega) ((congrFun ((FR1_trans (FR1_trans (FR1_refl rd0) frz0) frz1)).2.2.2.1 _).trans (hsd 38 (by omega))) (Or.inr (Or.inr (Or.inr (Or.inr (Or.inr (Or.inl ⟨rfl, rfl, rfl⟩)))))) with ⟨rz2, sz2, Vz2, plz2, qz2, vz2, kz2, oz2, ahz2, lez2, frz2, fmz2, pez2, waz2, tdz2, cdz2, hdz2⟩ | ⟨rz2, sz2, kz2, oz2, bdz2, frz2, fmz2, cdz2, hdz2⟩
      · skip
        have E : M_cd sz2 = cC (cB (cA (c0 (M_cd m) (40 + sz) (NN 11)) (40 + sz) (NN Vz0)) (40 + sz) (NN Vz1)) (40 + sz) (NN Vz2) := by rw [cdz2, cdz1, cdz0, hcb]
        have E8 : M_number (M_cd sz2) 18 = NN sz := by rw [E]; exact h8
        have e9 := fin8_eq E8
        refine ⟨rz2, F9 sz2 sz, (NN Vz0), (NN Vz1), (NN Vz2), fun K => ?_, ?_, (FR1_trans (FR1_trans (FR1_trans (FR1_refl rd0) frz0) frz1) frz2), (FM1_trans (FM1_trans (FM1_trans (FM1_refl m1) fmz0) fmz1) fmz2), (hdz2.trans (hdz1.trans (hdz0.trans rfl))), ?_, ?_⟩
        · rw [kz0, bd_some, kz1, bd_some, kz2, bd_some]
        · rw [eR, oz0, bd_some, oz1, bd_some, oz2, bd_some]
          exact e9
        · refine ⟨?_, fun j => ?_, fun j => ?_, fun j => ?_, fun j => ?_, ?_, ?_, ?_, ?_, fun j hj => ?_⟩
          · simp only [M_cd_mk, M_number_mk, M_codeSort_mk, M_codeA_mk, M_codeB_mk, M_codeC_mk, M_codeName_mk, M_codePlace_mk, M_codeTo_mk, M_labelName_mk, M_labelAt_mk, M_data_mk, E]
          · simp only [M_cd_mk, M_number_mk, M_codeSort_mk, M_codeA_mk, M_codeB_mk, M_codeC_mk, M_codeName_mk, M_codePlace_mk, M_codeTo_mk, M_labelName_mk, M_labelAt_mk, M_data_mk, E, upd_upd]
          · simp only [M_cd_mk, M_number_mk, M_codeSort_mk, M_codeA_mk, M_codeB_mk, M_codeC_mk, M_codeName_mk, M_codePlace_mk, M_codeTo_mk, M_labelName_mk, M_labelAt_mk, M_data_mk, E, upd_upd]
          · simp only [M_cd_mk, M_number_mk, M_codeSort_mk, M_codeA_mk, M_codeB_mk, M_codeC_mk, M_codeName_mk, M_codePlace_mk, M_codeTo_mk, M_labelName_mk, M_labelAt_mk, M_data_mk, E, upd_upd]
          · simp only [M_cd_mk, M_number_mk, M_codeSort_mk, M_codeA_mk, M_codeB_mk, M_codeC_mk, M_codeName_mk, M_codePlace_mk, M_codeTo_mk, M_labelName_mk, M_labelAt_mk, M_data_mk, E, upd_upd]
          · simp only [M_cd_mk, M_number_mk, M_codeSort_mk, M_codeA_mk, M_codeB_mk, M_codeC_mk, M_codeName_mk, M_codePlace_mk, M_codeTo_mk, M_labelName_mk, M_labelAt_mk, M_data_mk, E]
          · simp only [M_cd_mk, M_number_mk, M_codeSort_mk, M_codeA_mk, M_codeB_mk, M_codeC_mk, M_codeName_mk, M_codePlace_mk, M_codeTo_mk, M_labelName_mk, M_labelAt_mk, M_data_mk, E]
          · simp only [M_cd_mk, M_number_mk, M_codeSort_mk, M_codeA_mk, M_codeB_mk, M_codeC_mk, M_codeName_mk, M_codePlace_mk, M_codeTo_mk, M_labelName_mk, M_labelAt_mk, M_data_mk, E]
          · simp only [M_cd_mk, M_number_mk, M_codeSort_mk, M_codeA_mk, M_codeB_mk, M_codeC_mk, M_codeName_mk, M_codePlace_mk, M_codeTo_mk, M_labelName_mk, M_labelAt_mk, M_data_mk, E]
          · simp only [M_cd_mk, M_number_mk, M_codeSort_mk, M_codeA_mk, M_codeB_mk, M_codeC_mk, M_codeName_mk, M_codePlace_mk, M_codeTo_mk, M_labelName_mk, M_labelAt_mk, M_data_mk, E]; exact ⟨trivial, trivial⟩
        · refine Or.inl ⟨plz2, qz2, ahz2, (Nat.le_trans (Nat.le_trans (Nat.le_trans (Nat.le_refl pl1) lez0) lez1) lez2), (tdz2.trans (tdz1.trans (tdz0.trans rfl))), ⟨Vz0, Vz1, Vz2, ?_, rfl, rfl, ?_, ?_, ?_, ?_⟩⟩
          · refine ⟨by omega, by omega, by omega, by omega, ?_, ?_, ?_, ?_, ?_, ?_, ?_⟩ <;> omega
          · rw [pez2, upd_ne (by omega)]; rw [pez1, upd_ne (by omega)]; rw [pez0]; exact upd_at rfl
          · rw [pez2, upd_ne (by omega)]; rw [pez1]; exact upd_at rfl
          · intro _
            refine ⟨rfl, ?_, (waz2.trans (waz1.trans waz0))⟩
            rw [pez2]; exact upd_at rfl
          · intro hx; omega
      · skip
        have E : M_cd sz2 = cC (cB (cA (c0 (M_cd m) (40 + sz) (NN 11)) (40 + sz) (NN Vz0)) (40 + sz) (NN Vz1)) (40 + sz) (NN 0) := by rw [cdz2, cdz1, cdz0, hcb]
        have E8 : M_number (M_cd sz2) 18 = NN sz := by rw [E]; exact h8
        have e9 := fin8_eq E8
        refine ⟨rz2, F9 sz2 sz, (NN Vz0), (NN Vz1), (NN 0), fun K => ?_, ?_, (FR1_trans (FR1_trans (FR1_trans (FR1_refl rd0) frz0) frz1) frz2), (FM1_trans (FM1_trans (FM1_trans (FM1_refl m1) fmz0) fmz1) fmz2), (hdz2.trans (hdz1.trans (hdz0.trans rfl))), ?_, ?_⟩
        · rw [kz0, bd_some, kz1, bd_some, kz2, bd_some]
        · rw [eR, oz0, bd_some, oz1, bd_some, oz2, bd_some]
          exact e9
        · refine ⟨?_, fun j => ?_, fun j => ?_, fun j => ?_, fun j => ?_, ?_, ?_, ?_, ?_, fun j hj => ?_⟩
          · simp only [M_cd_mk, M_number_mk, M_codeSort_mk, M_codeA_mk, M_codeB_mk, M_codeC_mk, M_codeName_mk, M_codePlace_mk, M_codeTo_mk, M_labelName_mk, M_labelAt_mk, M_data_mk, E]
          · simp only [M_cd_mk, M_number_mk, M_codeSort_mk, M_codeA_mk, M_codeB_mk, M_codeC_mk, M_codeName_mk, M_codePlace_mk, M_codeTo_mk, M_labelName_mk, M_labelAt_mk, M_data_mk, E, upd_upd]
          · simp only [M_cd_mk, M_number_mk, M_codeSort_mk, M_codeA_mk, M_codeB_mk, M_codeC_mk, M_codeName_mk, M_codePlace_mk, M_codeTo_mk, M_labelName_mk, M_labelAt_mk, M_data_mk, E, upd_upd]
          · simp only [M_cd_mk, M_number_mk, M_codeSort_mk, M_codeA_mk, M_codeB_mk, M_codeC_mk, M_codeName_mk, M_codePlace_mk, M_codeTo_mk, M_labelName_mk, M_labelAt_mk, M_data_mk, E, upd_upd]
          · simp only [M_cd_mk, M_number_mk, M_codeSort_mk, M_codeA_mk, M_codeB_mk, M_codeC_mk, M_codeName_mk, M_codePlace_mk, M_codeTo_mk, M_labelName_mk, M_labelAt_mk, M_data_mk, E, upd_upd]
          · simp only [M_cd_mk, M_number_mk, M_codeSort_mk, M_codeA_mk, M_codeB_mk, M_codeC_mk, M_codeName_mk, M_codePlace_mk, M_codeTo_mk, M_labelName_mk, M_labelAt_mk, M_data_mk, E]
          · simp only [M_cd_mk, M_number_mk, M_codeSort_mk, M_codeA_mk, M_codeB_mk, M_codeC_mk, M_codeName_mk, M_codePlace_mk, M_codeTo_mk, M_labelName_mk, M_labelAt_mk, M_data_mk, E]
          · simp only [M_cd_mk, M_number_mk, M_codeSort_mk, M_codeA_mk, M_codeB_mk, M_codeC_mk, M_codeName_mk, M_codePlace_mk, M_codeTo_mk, M_labelName_mk, M_labelAt_mk, M_data_mk, E]
          · simp only [M_cd_mk, M_number_mk, M_codeSort_mk, M_codeA_mk, M_codeB_mk, M_codeC_mk, M_codeName_mk, M_codePlace_mk, M_codeTo_mk, M_labelName_mk, M_labelAt_mk, M_data_mk, E]
          · simp only [M_cd_mk, M_number_mk, M_codeSort_mk, M_codeA_mk, M_codeB_mk, M_codeC_mk, M_codeName_mk, M_codePlace_mk, M_codeTo_mk, M_labelName_mk, M_labelAt_mk, M_data_mk, E]; exact ⟨trivial, trivial⟩
        · exact Or.inr bdz2
    · skip
      obtain ⟨sz2, kz2, oz2, bdz2, fmz2, cdz2, hdz2⟩ := BC bdz1 pr (NN 12) (NN 2) (40 + sz) 7
      have E : M_cd sz2 = cC (cB (cA (c0 (M_cd m) (40 + sz) (NN 11)) (40 + sz) (NN Vz0)) (40 + sz) (NN 0)) (40 + sz) (NN 0) := by rw [cdz2, cdz1, cdz0, hcb]
      have E8 : M_number (M_cd sz2) 18 = NN sz := by rw [E]; exact h8
      have e9 := fin8_eq E8
      refine ⟨rz1, F9 sz2 sz, (NN Vz0), (NN 0), (NN 0), fun K => ?_, ?_, (FR1_trans (FR1_trans (FR1_refl rd0) frz0) frz1), (FM1_trans (FM1_trans (FM1_trans (FM1_refl m1) fmz0) fmz1) fmz2), (hdz2.trans (hdz1.trans (hdz0.trans rfl))), ?_, ?_⟩
      · rw [kz0, bd_some, kz1, bd_some, kz2, bd_some]
      · rw [eR, oz0, bd_some, oz1, bd_some, oz2, bd_some]
        exact e9
      · refine ⟨?_, fun j => ?_, fun j => ?_, fun j => ?_, fun j => ?_, ?_, ?_, ?_, ?_, fun j hj => ?_⟩
        · simp only [M_cd_mk, M_number_mk, M_codeSort_mk, M_codeA_mk, M_codeB_mk, M_codeC_mk, M_codeName_mk, M_codePlace_mk, M_codeTo_mk, M_labelName_mk, M_labelAt_mk, M_data_mk, E]
        · simp only [M_cd_mk, M_number_mk, M_codeSort_mk, M_codeA_mk, M_codeB_mk, M_codeC_mk, M_codeName_mk, M_codePlace_mk, M_codeTo_mk, M_labelName_mk, M_labelAt_mk, M_data_mk, E, upd_upd]
        · simp only [M_cd_mk, M_number_mk, M_codeSort_mk, M_codeA_mk, M_codeB_mk, M_codeC_mk, M_codeName_mk, M_codePlace_mk, M_codeTo_mk, M_labelName_mk, M_labelAt_mk, M_data_mk, E, upd_upd]
        · simp only [M_cd_mk, M_number_mk, M_codeSort_mk, M_codeA_mk, M_codeB_mk, M_codeC_mk, M_codeName_mk, M_codePlace_mk, M_codeTo_mk, M_labelName_mk, M_labelAt_mk, M_data_mk, E, upd_upd]
        · simp only [M_cd_mk, M_number_mk, M_codeSort_mk, M_codeA_mk, M_codeB_mk, M_codeC_mk, M_codeName_mk, M_codePlace_mk, M_codeTo_mk, M_labelName_mk, M_labelAt_mk, M_data_mk, E, upd_upd]
        · simp only [M_cd_mk, M_number_mk, M_codeSort_mk, M_codeA_mk, M_codeB_mk, M_codeC_mk, M_codeName_mk, M_codePlace_mk, M_codeTo_mk, M_labelName_mk, M_labelAt_mk, M_data_mk, E]
        · simp only [M_cd_mk, M_number_mk, M_codeSort_mk, M_codeA_mk, M_codeB_mk, M_codeC_mk, M_codeName_mk, M_codePlace_mk, M_codeTo_mk, M_labelName_mk, M_labelAt_mk, M_data_mk, E]
        · simp only [M_cd_mk, M_number_mk, M_codeSort_mk, M_codeA_mk, M_codeB_mk, M_codeC_mk, M_codeName_mk, M_codePlace_mk, M_codeTo_mk, M_labelName_mk, M_labelAt_mk, M_data_mk, E]
        · simp only [M_cd_mk, M_number_mk, M_codeSort_mk, M_codeA_mk, M_codeB_mk, M_codeC_mk, M_codeName_mk, M_codePlace_mk, M_codeTo_mk, M_labelName_mk, M_labelAt_mk, M_data_mk, E]
        · simp only [M_cd_mk, M_number_mk, M_codeSort_mk, M_codeA_mk, M_codeB_mk, M_codeC_mk, M_codeName_mk, M_codePlace_mk, M_codeTo_mk, M_labelName_mk, M_labelAt_mk, M_data_mk, E]; exact ⟨trivial, trivial⟩
      · exact Or.inr bdz2
  · skip
    obtain ⟨sz1, kz1, oz1, bdz1, fmz1, cdz1, hdz1⟩ := BB bdz0 pr (NN 12) (NN 1) (40 + sz) 7
    obtain ⟨sz2, kz2, oz2, bdz2, fmz2, cdz2, hdz2⟩ := BC bdz1 pr (NN 12) (NN 2) (40 + sz) 7
    have E : M_cd sz2 = cC (cB (cA (c0 (M_cd m) (40 + sz) (NN 11)) (40 + sz) (NN 0)) (40 + sz) (NN 0)) (40 + sz) (NN 0) := by rw [cdz2, cdz1, cdz0, hcb]
    have E8 : M_number (M_cd sz2) 18 = NN sz := by rw [E]; exact h8
    have e9 := fin8_eq E8
    refine ⟨rz0, F9 sz2 sz, (NN 0), (NN 0), (NN 0), fun K => ?_, ?_, (FR1_trans (FR1_refl rd0) frz0), (FM1_trans (FM1_trans (FM1_trans (FM1_refl m1) fmz0) fmz1) fmz2), (hdz2.trans (hdz1.trans (hdz0.trans rfl))), ?_, ?_⟩
    · rw [kz0, bd_some, kz1, bd_some, kz2, bd_some]
    · rw [eR, oz0, bd_some, oz1, bd_some, oz2, bd_some]
      exact e9
    · refine ⟨?_, fun j => ?_, fun j => ?_, fun j => ?_, fun j => ?_, ?_, ?_, ?_, ?_, fun j hj => ?_⟩
      · simp only [M_cd_mk, M_number_mk, M_codeSort_mk, M_codeA_mk, M_codeB_mk, M_codeC_mk, M_codeName_mk, M_codePlace_mk, M_codeTo_mk, M_labelName_mk, M_labelAt_mk, M_data_mk, E]
      · simp only [M_cd_mk, M_number_mk, M_codeSort_mk, M_codeA_mk, M_codeB_mk, M_codeC_mk, M_codeName_mk, M_codePlace_mk, M_codeTo_mk, M_labelName_mk, M_labelAt_mk, M_data_mk, E, upd_upd]
      · simp only [M_cd_mk, M_number_mk, M_codeSort_mk, M_codeA_mk, M_codeB_mk, M_codeC_mk, M_codeName_mk, M_codePlace_mk, M_codeTo_mk, M_labelName_mk, M_labelAt_mk, M_data_mk, E, upd_upd]
      · simp only [M_cd_mk, M_number_mk, M_codeSort_mk, M_codeA_mk, M_codeB_mk, M_codeC_mk, M_codeName_mk, M_codePlace_mk, M_codeTo_mk, M_labelName_mk, M_labelAt_mk, M_data_mk, E, upd_upd]
      · simp only [M_cd_mk, M_number_mk, M_codeSort_mk, M_codeA_mk, M_codeB_mk, M_codeC_mk, M_codeName_mk, M_codePlace_mk, M_codeTo_mk, M_labelName_mk, M_labelAt_mk, M_data_mk, E, upd_upd]
      · simp only [M_cd_mk, M_number_mk, M_codeSort_mk, M_codeA_mk, M_codeB_mk, M_codeC_mk, M_codeName_mk, M_codePlace_mk, M_codeTo_mk, M_labelName_mk, M_labelAt_mk, M_data_mk, E]
      · simp only [M_cd_mk, M_number_mk, M_codeSort_mk, M_codeA_mk, M_codeB_mk, M_codeC_mk, M_codeName_mk, M_codePlace_mk, M_codeTo_mk, M_labelName_mk, M_labelAt_mk, M_data_mk, E]
      · simp only [M_cd_mk, M_number_mk, M_codeSort_mk, M_codeA_mk, M_codeB_mk, M_codeC_mk, M_codeName_mk, M_codePlace_mk, M_codeTo_mk, M_labelName_mk, M_labelAt_mk, M_data_mk, E]
      · simp only [M_cd_mk, M_number_mk, M_codeSort_mk, M_codeA_mk, M_codeB_mk, M_codeC_mk, M_codeName_mk, M_codePlace_mk, M_codeTo_mk, M_labelName_mk, M_labelAt_mk, M_data_mk, E]
      · simp only [M_cd_mk, M_number_mk, M_codeSort_mk, M_codeA_mk, M_codeB_mk, M_codeC_mk, M_codeName_mk, M_codePlace_mk, M_codeTo_mk, M_labelName_mk, M_labelAt_mk, M_data_mk, E]; exact ⟨trivial, trivial⟩
    · exact Or.inr bdz2
set_option maxHeartbeats 4000000 in
theorem IL_13 {T : Nat → Nat} {n : Nat} {rd0 : T_Rd} {m1 m : T_M} {pl1 q1 sz : Nat} (hA : AH T n rd0 m1 pl1 q1) (hwd : WD rd0) (hsd : SD rd0) (hp0 : ∀ j, j < 3 → Rd_parts rd0 j = NN 0) (pr : T_Pg) (hps : Pg_size pr = NN sz) (hsz : sz < 40) (h8 : M_number (M_cd m) 18 = NN sz) (eg : f_M_goOn m = some m1) (hc : M_cd m1 = M_cd m) : IR T n rd0 m1 m pr 13 12 6 sz pl1 := by
  have hf1 := AH_M0 hA
  have eR := RC_12 h8 hsz eg hf1 hc
  have h0 : AH T n rd0 (sC m1 (c0 (M_cd m1) (40 + sz) (NN 12))) pl1 q1 := hA
  have hcb : M_cd (sC m1 (c0 (M_cd m1) (40 + sz) (NN 12))) = c0 (M_cd m) (40 + sz) (NN 12) := by rw [hc]; rfl
  rcases JA h0 pr (40 + sz) (w := 13) (k := 0) (s := 114) (hi := 7) (by omega) (by omega) ((congrFun ((FR1_refl rd0)).2.2.2.1 _).trans (hsd 39 (by omega))) (Or.inr (Or.inr (Or.inr (Or.inr (Or.inr (Or.inl ⟨rfl, rfl, rfl⟩)))))) with ⟨rz0, sz0, Vz0, plz0, qz0, vz0, kz0, oz0, ahz0, lez0, frz0, fmz0, pez0, waz0, tdz0, cdz0, hdz0⟩ | ⟨rz0, sz0, kz0, oz0, bdz0, frz0, fmz0, cdz0, hdz0⟩
  · skip
    rcases JB ahz0 pr (40 + sz) (w := 13) (k := 1) (s := 114) (hi := 7) (by omega) (by omega) ((congrFun ((FR1_trans (FR1_refl rd0) frz0)).2.2.2.1 _).trans (hsd 40 (by omega))) (Or.inr (Or.inr (Or.inr (Or.inr (Or.inr (Or.inl ⟨rfl, rfl, rfl⟩)))))) with ⟨rz1, sz1, Vz1, plz1, qz1, vz1, kz1, oz1, ahz1, lez1, frz1, fmz1, pez1, waz1, tdz1, cdz1, hdz1⟩ | ⟨rz1, sz1, kz1, oz1, bdz1, frz1, fmz1, cdz1, hdz1⟩
    · skip
      rcases JC ahz1 pr (40 + sz) (w := 13) (k := 2) (s := 109) (hi := 31) (by omega) (by omega) ((congrFun ((FR1_trans (FR1_trans (FR1_refl rd0) frz0) frz1)).2.2.2.1 _).trans (hsd 41 (by omega))) (Or.inr (Or.inr (Or.inr (Or.inr (Or.inr (Or.inr (Or.inr ⟨rfl, rfl, rfl⟩))))))) with ⟨rz2, sz2, Vz2, plz2, qz2, vz2, kz2, oz2, ahz2, lez2, frz2, fmz2, pez2, waz2, tdz2, cdz2, hdz2⟩ | ⟨rz2, sz2, kz2, oz2, bdz2, frz2, fmz2, cdz2, hdz2⟩
      · skip
        have E : M_cd sz2 = cC (cB (cA (c0 (M_cd m) (40 + sz) (NN 12)) (40 + sz) (NN Vz0)) (40 + sz) (NN Vz1)) (40 + sz) (NN Vz2) := by rw [cdz2, cdz1, cdz0, hcb]
        have E8 : M_number (M_cd sz2) 18 = NN sz := by rw [E]; exact h8
        have e9 := fin8_eq E8
        refine ⟨rz2, F9 sz2 sz, (NN Vz0), (NN Vz1), (NN Vz2), fun K => ?_, ?_, (FR1_trans (FR1_trans (FR1_trans (FR1_refl rd0) frz0) frz1) frz2), (FM1_trans (FM1_trans (FM1_trans (FM1_refl m1) fmz0) fmz1) fmz2), (hdz2.trans (hdz1.trans (hdz0.trans rfl))), ?_, ?_⟩
        · rw [kz0, bd_some, kz1, bd_some, kz2, bd_some]
        · rw [eR, oz0, bd_some, oz1, bd_some, oz2, bd_some]
          exact e9
        · refine ⟨?_, fun j => ?_, fun j => ?_, fun j => ?_, fun j => ?_, ?_, ?_, ?_, ?_, fun j hj => ?_⟩
          · simp only [M_cd_mk, M_number_mk, M_codeSort_mk, M_codeA_mk, M_codeB_mk, M_codeC_mk, M_codeName_mk, M_codePlace_mk, M_codeTo_mk, M_labelName_mk, M_labelAt_mk, M_data_mk, E]
          · simp only [M_cd_mk, M_number_mk, M_codeSort_mk, M_codeA_mk, M_codeB_mk, M_codeC_mk, M_codeName_mk, M_codePlace_mk, M_codeTo_mk, M_labelName_mk, M_labelAt_mk, M_data_mk, E, upd_upd]
          · simp only [M_cd_mk, M_number_mk, M_codeSort_mk, M_codeA_mk, M_codeB_mk, M_codeC_mk, M_codeName_mk, M_codePlace_mk, M_codeTo_mk, M_labelName_mk, M_labelAt_mk, M_data_mk, E, upd_upd]
          · simp only [M_cd_mk, M_number_mk, M_codeSort_mk, M_codeA_mk, M_codeB_mk, M_codeC_mk, M_codeName_mk, M_codePlace_mk, M_codeTo_mk, M_labelName_mk, M_labelAt_mk, M_data_mk, E, upd_upd]
          · simp only [M_cd_mk, M_number_mk, M_codeSort_mk, M_codeA_mk, M_codeB_mk, M_codeC_mk, M_codeName_mk, M_codePlace_mk, M_codeTo_mk, M_labelName_mk, M_labelAt_mk, M_data_mk, E, upd_upd]
          · simp only [M_cd_mk, M_number_mk, M_codeSort_mk, M_codeA_mk, M_codeB_mk, M_codeC_mk, M_codeName_mk, M_codePlace_mk, M_codeTo_mk, M_labelName_mk, M_labelAt_mk, M_data_mk, E]
          · simp only [M_cd_mk, M_number_mk, M_codeSort_mk, M_codeA_mk, M_codeB_mk, M_codeC_mk, M_codeName_mk, M_codePlace_mk, M_codeTo_mk, M_labelName_mk, M_labelAt_mk, M_data_mk, E]
          · simp only [M_cd_mk, M_number_mk, M_codeSort_mk, M_codeA_mk, M_codeB_mk, M_codeC_mk, M_codeName_mk, M_codePlace_mk, M_codeTo_mk, M_labelName_mk, M_labelAt_mk, M_data_mk, E]
          · simp only [M_cd_mk, M_number_mk, M_codeSort_mk, M_codeA_mk, M_codeB_mk, M_codeC_mk, M_codeName_mk, M_codePlace_mk, M_codeTo_mk, M_labelName_mk, M_labelAt_mk, M_data_mk, E]
          · simp only [M_cd_mk, M_number_mk, M_codeSort_mk, M_codeA_mk, M_codeB_mk, M_codeC_mk, M_codeName_mk, M_codePlace_mk, M_codeTo_mk, M_labelName_mk, M_labelAt_mk, M_data_mk, E]; exact ⟨trivial, trivial⟩
        · refine Or.inl ⟨plz2, qz2, ahz2, (Nat.le_trans (Nat.le_trans (Nat.le_trans (Nat.le_refl pl1) lez0) lez1) lez2), (tdz2.trans (tdz1.trans (tdz0.trans rfl))), ⟨Vz0, Vz1, Vz2, ?_, rfl, rfl, ?_, ?_, ?_, ?_⟩⟩
          · refine ⟨by omega, by omega, by omega, by omega, ?_, ?_, ?_, ?_, ?_, ?_, ?_⟩ <;> omega
          · rw [pez2, upd_ne (by omega)]; rw [pez1, upd_ne (by omega)]; rw [pez0]; exact upd_at rfl
          · rw [pez2, upd_ne (by omega)]; rw [pez1]; exact upd_at rfl
          · intro _
            refine ⟨rfl, ?_, (waz2.trans (waz1.trans waz0))⟩
            rw [pez2]; exact upd_at rfl
          · intro hx; omega
      · skip
        have E : M_cd sz2 = cC (cB (cA (c0 (M_cd m) (40 + sz) (NN 12)) (40 + sz) (NN Vz0)) (40 + sz) (NN Vz1)) (40 + sz) (NN 0) := by rw [cdz2, cdz1, cdz0, hcb]
        have E8 : M_number (M_cd sz2) 18 = NN sz := by rw [E]; exact h8
        have e9 := fin8_eq E8
        refine ⟨rz2, F9 sz2 sz, (NN Vz0), (NN Vz1), (NN 0), fun K => ?_, ?_, (FR1_trans (FR1_trans (FR1_trans (FR1_refl rd0) frz0) frz1) frz2), (FM1_trans (FM1_trans (FM1_trans (FM1_refl m1) fmz0) fmz1) fmz2), (hdz2.trans (hdz1.trans (hdz0.trans rfl))), ?_, ?_⟩
        · rw [kz0, bd_some, kz1, bd_some, kz2, bd_some]
        · rw [eR, oz0, bd_some, oz1, bd_some, oz2, bd_some]
          exact e9
        · refine ⟨?_, fun j => ?_, fun j => ?_, fun j => ?_, fun j => ?_, ?_, ?_, ?_, ?_, fun j hj => ?_⟩
          · simp only [M_cd_mk, M_number_mk, M_codeSort_mk, M_codeA_mk, M_codeB_mk, M_codeC_mk, M_codeName_mk, M_codePlace_mk, M_codeTo_mk, M_labelName_mk, M_labelAt_mk, M_data_mk, E]
          · simp only [M_cd_mk, M_number_mk, M_codeSort_mk, M_codeA_mk, M_codeB_mk, M_codeC_mk, M_codeName_mk, M_codePlace_mk, M_codeTo_mk, M_labelName_mk, M_labelAt_mk, M_data_mk, E, upd_upd]
          · simp only [M_cd_mk, M_number_mk, M_codeSort_mk, M_codeA_mk, M_codeB_mk, M_codeC_mk, M_codeName_mk, M_codePlace_mk, M_codeTo_mk, M_labelName_mk, M_labelAt_mk, M_data_mk, E, upd_upd]
          · simp only [M_cd_mk, M_number_mk, M_codeSort_mk, M_codeA_mk, M_codeB_mk, M_codeC_mk, M_codeName_mk, M_codePlace_mk, M_codeTo_mk, M_labelName_mk, M_labelAt_mk, M_data_mk, E, upd_upd]
          · simp only [M_cd_mk, M_number_mk, M_codeSort_mk, M_codeA_mk, M_codeB_mk, M_codeC_mk, M_codeName_mk, M_codePlace_mk, M_codeTo_mk, M_labelName_mk, M_labelAt_mk, M_data_mk, E, upd_upd]
          · simp only [M_cd_mk, M_number_mk, M_codeSort_mk, M_codeA_mk, M_codeB_mk, M_codeC_mk, M_codeName_mk, M_codePlace_mk, M_codeTo_mk, M_labelName_mk, M_labelAt_mk, M_data_mk, E]
          · simp only [M_cd_mk, M_number_mk, M_codeSort_mk, M_codeA_mk, M_codeB_mk, M_codeC_mk, M_codeName_mk, M_codePlace_mk, M_codeTo_mk, M_labelName_mk, M_labelAt_mk, M_data_mk, E]
          · simp only [M_cd_mk, M_number_mk, M_codeSort_mk, M_codeA_mk, M_codeB_mk, M_codeC_mk, M_codeName_mk, M_codePlace_mk, M_codeTo_mk, M_labelName_mk, M_labelAt_mk, M_data_mk, E]
          · simp only [M_cd_mk, M_number_mk, M_codeSort_mk, M_codeA_mk, M_codeB_mk, M_codeC_mk, M_codeName_mk, M_codePlace_mk, M_codeTo_mk, M_labelName_mk, M_labelAt_mk, M_data_mk, E]
          · simp only [M_cd_mk, M_number_mk, M_codeSort_mk, M_codeA_mk, M_codeB_mk, M_codeC_mk, M_codeName_mk, M_codePlace_mk, M_codeTo_mk, M_labelName_mk, M_labelAt_mk, M_data_mk, E]; exact ⟨trivial, trivial⟩
        · exact Or.inr bdz2
    · skip
      obtain ⟨sz2, kz2, oz2, bdz2, fmz2, cdz2, hdz2⟩ := BC bdz1 pr (NN 13) (NN 2) (40 + sz) 31
      have E : M_cd sz2 = cC (cB (cA (c0 (M_cd m) (40 + sz) (NN 12)) (40 + sz) (NN Vz0)) (40 + sz) (NN 0)) (40 + sz) (NN 0) := by rw [cdz2, cdz1, cdz0, hcb]
      have E8 : M_number (M_cd sz2) 18 = NN sz := by rw [E]; exact h8
      have e9 := fin8_eq E8
      refine ⟨rz1, F9 sz2 sz, (NN Vz0), (NN 0), (NN 0), fun K => ?_, ?_, (FR1_trans (FR1_trans (FR1_refl rd0) frz0) frz1), (FM1_trans (FM1_trans (FM1_trans (FM1_refl m1) fmz0) fmz1) fmz2), (hdz2.trans (hdz1.trans (hdz0.trans rfl))), ?_, ?_⟩
      · rw [kz0, bd_some, kz1, bd_some, kz2, bd_some]
      · rw [eR, oz0, bd_some, oz1, bd_some, oz2, bd_some]
        exact e9
      · refine ⟨?_, fun j => ?_, fun j => ?_, fun j => ?_, fun j => ?_, ?_, ?_, ?_, ?_, fun j hj => ?_⟩
        · simp only [M_cd_mk, M_number_mk, M_codeSort_mk, M_codeA_mk, M_codeB_mk, M_codeC_mk, M_codeName_mk, M_codePlace_mk, M_codeTo_mk, M_labelName_mk, M_labelAt_mk, M_data_mk, E]
        · simp only [M_cd_mk, M_number_mk, M_codeSort_mk, M_codeA_mk, M_codeB_mk, M_codeC_mk, M_codeName_mk, M_codePlace_mk, M_codeTo_mk, M_labelName_mk, M_labelAt_mk, M_data_mk, E, upd_upd]
        · simp only [M_cd_mk, M_number_mk, M_codeSort_mk, M_codeA_mk, M_codeB_mk, M_codeC_mk, M_codeName_mk, M_codePlace_mk, M_codeTo_mk, M_labelName_mk, M_labelAt_mk, M_data_mk, E, upd_upd]
        · simp only [M_cd_mk, M_number_mk, M_codeSort_mk, M_codeA_mk, M_codeB_mk, M_codeC_mk, M_codeName_mk, M_codePlace_mk, M_codeTo_mk, M_labelName_mk, M_labelAt_mk, M_data_mk, E, upd_upd]
        · simp only [M_cd_mk, M_number_mk, M_codeSort_mk, M_codeA_mk, M_codeB_mk, M_codeC_mk, M_codeName_mk, M_codePlace_mk, M_codeTo_mk, M_labelName_mk, M_labelAt_mk, M_data_mk, E, upd_upd]
        · simp only [M_cd_mk, M_number_mk, M_codeSort_mk, M_codeA_mk, M_codeB_mk, M_codeC_mk, M_codeName_mk, M_codePlace_mk, M_codeTo_mk, M_labelName_mk, M_labelAt_mk, M_data_mk, E]
        · simp only [M_cd_mk, M_number_mk, M_codeSort_mk, M_codeA_mk, M_codeB_mk, M_codeC_mk, M_codeName_mk, M_codePlace_mk, M_codeTo_mk, M_labelName_mk, M_labelAt_mk, M_data_mk, E]
        · simp only [M_cd_mk, M_number_mk, M_codeSort_mk, M_codeA_mk, M_codeB_mk, M_codeC_mk, M_codeName_mk, M_codePlace_mk, M_codeTo_mk, M_labelName_mk, M_labelAt_mk, M_data_mk, E]
        · simp only [M_cd_mk, M_number_mk, M_codeSort_mk, M_codeA_mk, M_codeB_mk, M_codeC_mk, M_codeName_mk, M_codePlace_mk, M_codeTo_mk, M_labelName_mk, M_labelAt_mk, M_data_mk, E]
        · simp only [M_cd_mk, M_number_mk, M_codeSort_mk, M_codeA_mk, M_codeB_mk, M_codeC_mk, M_codeName_mk, M_codePlace_mk, M_codeTo_mk, M_labelName_mk, M_labelAt_mk, M_data_mk, E]; exact ⟨trivial, trivial⟩
      · exact Or.inr bdz2
  · skip
    obtain ⟨sz1, kz1, oz1, bdz1, fmz1, cdz1, hdz1⟩ := BB bdz0 pr (NN 13) (NN 1) (40 + sz) 7
    obtain ⟨sz2, kz2, oz2, bdz2, fmz2, cdz2, hdz2⟩ := BC bdz1 pr (NN 13) (NN 2) (40 + sz) 31
    have E : M_cd sz2 = cC (cB (cA (c0 (M_cd m) (40 + sz) (NN 12)) (40 + sz) (NN 0)) (40 + sz) (NN 0)) (40 + sz) (NN 0) := by rw [cdz2, cdz1, cdz0, hcb]
    have E8 : M_number (M_cd sz2) 18 = NN sz := by rw [E]; exact h8
    have e9 := fin8_eq E8
    refine ⟨rz0, F9 sz2 sz, (NN 0), (NN 0), (NN 0), fun K => ?_, ?_, (FR1_trans (FR1_refl rd0) frz0), (FM1_trans (FM1_trans (FM1_trans (FM1_refl m1) fmz0) fmz1) fmz2), (hdz2.trans (hdz1.trans (hdz0.trans rfl))), ?_, ?_⟩
    · rw [kz0, bd_some, kz1, bd_some, kz2, bd_some]
    · rw [eR, oz0, bd_some, oz1, bd_some, oz2, bd_some]
      exact e9
    · refine ⟨?_, fun j => ?_, fun j => ?_, fun j => ?_, fun j => ?_, ?_, ?_, ?_, ?_, fun j hj => ?_⟩
      · simp only [M_cd_mk, M_number_mk, M_codeSort_mk, M_codeA_mk, M_codeB_mk, M_codeC_mk, M_codeName_mk, M_codePlace_mk, M_codeTo_mk, M_labelName_mk, M_labelAt_mk, M_data_mk, E]
      · simp only [M_cd_mk, M_number_mk, M_codeSort_mk, M_codeA_mk, M_codeB_mk, M_codeC_mk, M_codeName_mk, M_codePlace_mk, M_codeTo_mk, M_labelName_mk, M_labelAt_mk, M_data_mk, E, upd_upd]
      · simp only [M_cd_mk, M_number_mk, M_codeSort_mk, M_codeA_mk, M_codeB_mk, M_codeC_mk, M_codeName_mk, M_codePlace_mk, M_codeTo_mk, M_labelName_mk, M_labelAt_mk, M_data_mk, E, upd_upd]
      · simp only [M_cd_mk, M_number_mk, M_codeSort_mk, M_codeA_mk, M_codeB_mk, M_codeC_mk, M_codeName_mk, M_codePlace_mk, M_codeTo_mk, M_labelName_mk, M_labelAt_mk, M_data_mk, E, upd_upd]
      · simp only [M_cd_mk, M_number_mk, M_codeSort_mk, M_codeA_mk, M_codeB_mk, M_codeC_mk, M_codeName_mk, M_codePlace_mk, M_codeTo_mk, M_labelName_mk, M_labelAt_mk, M_data_mk, E, upd_upd]
      · simp only [M_cd_mk, M_number_mk, M_codeSort_mk, M_codeA_mk, M_codeB_mk, M_codeC_mk, M_codeName_mk, M_codePlace_mk, M_codeTo_mk, M_labelName_mk, M_labelAt_mk, M_data_mk, E]
      · simp only [M_cd_mk, M_number_mk, M_codeSort_mk, M_codeA_mk, M_codeB_mk, M_codeC_mk, M_codeName_mk, M_codePlace_mk, M_codeTo_mk, M_labelName_mk, M_labelAt_mk, M_data_mk, E]
      · simp only [M_cd_mk, M_number_mk, M_codeSort_mk, M_codeA_mk, M_codeB_mk, M_codeC_mk, M_codeName_mk, M_codePlace_mk, M_codeTo_mk, M_labelName_mk, M_labelAt_mk, M_data_mk, E]
      · simp only [M_cd_mk, M_number_mk, M_codeSort_mk, M_codeA_mk, M_codeB_mk, M_codeC_mk, M_codeName_mk, M_codePlace_mk, M_codeTo_mk, M_labelName_mk, M_labelAt_mk, M_data_mk, E]
      · simp only [M_cd_mk, M_number_mk, M_codeSort_mk, M_codeA_mk, M_codeB_mk, M_codeC_mk, M_codeName_mk, M_codePlace_mk, M_codeTo_mk, M_labelName_mk, M_labelAt_mk, M_data_mk, E]; exact ⟨trivial, trivial⟩
    · exact Or.inr bdz2
set_option maxHeartbeats 4000000 in
theorem IL_14 {T : Nat → Nat} {n : Nat} {rd0 : T_Rd} {m1 m : T_M} {pl1 q1 sz : Nat} (hA : AH T n rd0 m1 pl1 q1) (hwd : WD rd0) (hsd : SD rd0) (hp0 : ∀ j, j < 3 → Rd_parts rd0 j = NN 0) (pr : T_Pg) (hps : Pg_size pr = NN sz) (hsz : sz < 40) (h8 : M_number (M_cd m) 18 = NN sz) (eg : f_M_goOn m = some m1) (hc : M_cd m1 = M_cd m) : IR T n rd0 m1 m pr 14 13 7 sz pl1 := by
  have hf1 := AH_M0 hA
  have eR := RC_13 h8 hsz eg hf1 hc
  have h0 : AH T n rd0 (sC m1 (c0 (M_cd m1) (40 + sz) (NN 13))) pl1 q1 := hA
  have hcb : M_cd (sC m1 (c0 (M_cd m1) (40 + sz) (NN 13))) = c0 (M_cd m) (40 + sz) (NN 13) := by rw [hc]; rfl
  rcases JA h0 pr (40 + sz) (w := 14) (k := 0) (s := 114) (hi := 7) (by omega) (by omega) ((congrFun ((FR1_refl rd0)).2.2.2.1 _).trans (hsd 42 (by omega))) (Or.inr (Or.inr (Or.inr (Or.inr (Or.inr (Or.inl ⟨rfl, rfl, rfl⟩)))))) with ⟨rz0, sz0, Vz0, plz0, qz0, vz0, kz0, oz0, ahz0, lez0, frz0, fmz0, pez0, waz0, tdz0, cdz0, hdz0⟩ | ⟨rz0, sz0, kz0, oz0, bdz0, frz0, fmz0, cdz0, hdz0⟩
  · skip
    rcases JB ahz0 pr (40 + sz) (w := 14) (k := 1) (s := 114) (hi := 7) (by omega) (by omega) ((congrFun ((FR1_trans (FR1_refl rd0) frz0)).2.2.2.1 _).trans (hsd 43 (by omega))) (Or.inr (Or.inr (Or.inr (Or.inr (Or.inr (Or.inl ⟨rfl, rfl, rfl⟩)))))) with ⟨rz1, sz1, Vz1, plz1, qz1, vz1, kz1, oz1, ahz1, lez1, frz1, fmz1, pez1, waz1, tdz1, cdz1, hdz1⟩ | ⟨rz1, sz1, kz1, oz1, bdz1, frz1, fmz1, cdz1, hdz1⟩
    · skip
      rcases JC ahz1 pr (40 + sz) (w := 14) (k := 2) (s := 109) (hi := 31) (by omega) (by omega) ((congrFun ((FR1_trans (FR1_trans (FR1_refl rd0) frz0) frz1)).2.2.2.1 _).trans (hsd 44 (by omega))) (Or.inr (Or.inr (Or.inr (Or.inr (Or.inr (Or.inr (Or.inr ⟨rfl, rfl, rfl⟩))))))) with ⟨rz2, sz2, Vz2, plz2, qz2, vz2, kz2, oz2, ahz2, lez2, frz2, fmz2, pez2, waz2, tdz2, cdz2, hdz2⟩ | ⟨rz2, sz2, kz2, oz2, bdz2, frz2, fmz2, cdz2, hdz2⟩
      · skip
        have E : M_cd sz2 = cC (cB (cA (c0 (M_cd m) (40 + sz) (NN 13)) (40 + sz) (NN Vz0)) (40 + sz) (NN Vz1)) (40 + sz) (NN Vz2) := by rw [cdz2, cdz1, cdz0, hcb]
        have E8 : M_number (M_cd sz2) 18 = NN sz := by rw [E]; exact h8
        have e9 := fin8_eq E8
        refine ⟨rz2, F9 sz2 sz, (NN Vz0), (NN Vz1), (NN Vz2), fun K => ?_, ?_, (FR1_trans (FR1_trans (FR1_trans (FR1_refl rd0) frz0) frz1) frz2), (FM1_trans (FM1_trans (FM1_trans (FM1_refl m1) fmz0) fmz1) fmz2), (hdz2.trans (hdz1.trans (hdz0.trans rfl))), ?_, ?_⟩
        · rw [kz0, bd_some, kz1, bd_some, kz2, bd_some]
        · rw [eR, oz0, bd_some, oz1, bd_some, oz2, bd_some]
          exact e9
        · refine ⟨?_, fun j => ?_, fun j => ?_, fun j => ?_, fun j => ?_, ?_, ?_, ?_, ?_, fun j hj => ?_⟩
          · simp only [M_cd_mk, M_number_mk, M_codeSort_mk, M_codeA_mk, M_codeB_mk, M_codeC_mk, M_codeName_mk, M_codePlace_mk, M_codeTo_mk, M_labelName_mk, M_labelAt_mk, M_data_mk, E]
          · simp only [M_cd_mk, M_number_mk, M_codeSort_mk, M_codeA_mk, M_codeB_mk, M_codeC_mk, M_codeName_mk, M_codePlace_mk, M_codeTo_mk, M_labelName_mk, M_labelAt_mk, M_data_mk, E, upd_upd]
          · simp only [M_cd_mk, M_number_mk, M_codeSort_mk, M_codeA_mk, M_codeB_mk, M_codeC_mk, M_codeName_mk, M_codePlace_mk, M_codeTo_mk, M_labelName_mk, M_labelAt_mk, M_data_mk, E, upd_upd]
          · simp only [M_cd_mk, M_number_mk, M_codeSort_mk, M_codeA_mk, M_codeB_mk, M_codeC_mk, M_codeName_mk, M_codePlace_mk, M_codeTo_mk, M_labelName_mk, M_labelAt_mk, M_data_mk, E, upd_upd]
          · simp only [M_cd_mk, M_number_mk, M_codeSort_mk, M_codeA_mk, M_codeB_mk, M_codeC_mk, M_codeName_mk, M_codePlace_mk, M_codeTo_mk, M_labelName_mk, M_labelAt_mk, M_data_mk, E, upd_upd]
          · simp only [M_cd_mk, M_number_mk, M_codeSort_mk, M_codeA_mk, M_codeB_mk, M_codeC_mk, M_codeName_mk, M_codePlace_mk, M_codeTo_mk, M_labelName_mk, M_labelAt_mk, M_data_mk, E]
          · simp only [M_cd_mk, M_number_mk, M_codeSort_mk, M_codeA_mk, M_codeB_mk, M_codeC_mk, M_codeName_mk, M_codePlace_mk, M_codeTo_mk, M_labelName_mk, M_labelAt_mk, M_data_mk, E]
          · simp only [M_cd_mk, M_number_mk, M_codeSort_mk, M_codeA_mk, M_codeB_mk, M_codeC_mk, M_codeName_mk, M_codePlace_mk, M_codeTo_mk, M_labelName_mk, M_labelAt_mk, M_data_mk, E]
          · simp only [M_cd_mk, M_number_mk, M_codeSort_mk, M_codeA_mk, M_codeB_mk, M_codeC_mk, M_codeName_mk, M_codePlace_mk, M_codeTo_mk, M_labelName_mk, M_labelAt_mk, M_data_mk, E]
          · simp only [M_cd_mk, M_number_mk, M_codeSort_mk, M_codeA_mk, M_codeB_mk, M_codeC_mk, M_codeName_mk, M_codePlace_mk, M_codeTo_mk, M_labelName_mk, M_labelAt_mk, M_data_mk, E]; exact ⟨trivial, trivial⟩
        · refine Or.inl ⟨plz2, qz2, ahz2, (Nat.le_trans (Nat.le_trans (Nat.le_trans (Nat.le_refl pl1) lez0) lez1) lez2), (tdz2.trans (tdz1.trans (tdz0.trans rfl))), ⟨Vz0, Vz1, Vz2, ?_, rfl, rfl, ?_, ?_, ?_, ?_⟩⟩
          · refine ⟨by omega, by omega, by omega, by omega, ?_, ?_, ?_, ?_, ?_, ?_, ?_⟩ <;> omega
          · rw [pez2, upd_ne (by omega)]; rw [pez1, upd_ne (by omega)]; rw [pez0]; exact upd_at rfl
          · rw [pez2, upd_ne (by omega)]; rw [pez1]; exact upd_at rfl
          · intro _
            refine ⟨rfl, ?_, (waz2.trans (waz1.trans waz0))⟩
            rw [pez2]; exact upd_at rfl
          · intro hx; omega
      · skip
        have E : M_cd sz2 = cC (cB (cA (c0 (M_cd m) (40 + sz) (NN 13)) (40 + sz) (NN Vz0)) (40 + sz) (NN Vz1)) (40 + sz) (NN 0) := by rw [cdz2, cdz1, cdz0, hcb]
        have E8 : M_number (M_cd sz2) 18 = NN sz := by rw [E]; exact h8
        have e9 := fin8_eq E8
        refine ⟨rz2, F9 sz2 sz, (NN Vz0), (NN Vz1), (NN 0), fun K => ?_, ?_, (FR1_trans (FR1_trans (FR1_trans (FR1_refl rd0) frz0) frz1) frz2), (FM1_trans (FM1_trans (FM1_trans (FM1_refl m1) fmz0) fmz1) fmz2), (hdz2.trans (hdz1.trans (hdz0.trans rfl))), ?_, ?_⟩
        · rw [kz0, bd_some, kz1, bd_some, kz2, bd_some]
        · rw [eR, oz0, bd_some, oz1, bd_some, oz2, bd_some]
          exact e9
        · refine ⟨?_, fun j => ?_, fun j => ?_, fun j => ?_, fun j => ?_, ?_, ?_, ?_, ?_, fun j hj => ?_⟩
          · simp only [M_cd_mk, M_number_mk, M_codeSort_mk, M_codeA_mk, M_codeB_mk, M_codeC_mk, M_codeName_mk, M_codePlace_mk, M_codeTo_mk, M_labelName_mk, M_labelAt_mk, M_data_mk, E]
          · simp only [M_cd_mk, M_number_mk, M_codeSort_mk, M_codeA_mk, M_codeB_mk, M_codeC_mk, M_codeName_mk, M_codePlace_mk, M_codeTo_mk, M_labelName_mk, M_labelAt_mk, M_data_mk, E, upd_upd]
          · simp only [M_cd_mk, M_number_mk, M_codeSort_mk, M_codeA_mk, M_codeB_mk, M_codeC_mk, M_codeName_mk, M_codePlace_mk, M_codeTo_mk, M_labelName_mk, M_labelAt_mk, M_data_mk, E, upd_upd]
          · simp only [M_cd_mk, M_number_mk, M_codeSort_mk, M_codeA_mk, M_codeB_mk, M_codeC_mk, M_codeName_mk, M_codePlace_mk, M_codeTo_mk, M_labelName_mk, M_labelAt_mk, M_data_mk, E, upd_upd]
          · simp only [M_cd_mk, M_number_mk, M_codeSort_mk, M_codeA_mk, M_codeB_mk, M_codeC_mk, M_codeName_mk, M_codePlace_mk, M_codeTo_mk, M_labelName_mk, M_labelAt_mk, M_data_mk, E, upd_upd]
          · simp only [M_cd_mk, M_number_mk, M_codeSort_mk, M_codeA_mk, M_codeB_mk, M_codeC_mk, M_codeName_mk, M_codePlace_mk, M_codeTo_mk, M_labelName_mk, M_labelAt_mk, M_data_mk, E]
          · simp only [M_cd_mk, M_number_mk, M_codeSort_mk, M_codeA_mk, M_codeB_mk, M_codeC_mk, M_codeName_mk, M_codePlace_mk, M_codeTo_mk, M_labelName_mk, M_labelAt_mk, M_data_mk, E]
          · simp only [M_cd_mk, M_number_mk, M_codeSort_mk, M_codeA_mk, M_codeB_mk, M_codeC_mk, M_codeName_mk, M_codePlace_mk, M_codeTo_mk, M_labelName_mk, M_labelAt_mk, M_data_mk, E]
          · simp only [M_cd_mk, M_number_mk, M_codeSort_mk, M_codeA_mk, M_codeB_mk, M_codeC_mk, M_codeName_mk, M_codePlace_mk, M_codeTo_mk, M_labelName_mk, M_labelAt_mk, M_data_mk, E]
          · simp only [M_cd_mk, M_number_mk, M_codeSort_mk, M_codeA_mk, M_codeB_mk, M_codeC_mk, M_codeName_mk, M_codePlace_mk, M_codeTo_mk, M_labelName_mk, M_labelAt_mk, M_data_mk, E]; exact ⟨trivial, trivial⟩
        · exact Or.inr bdz2
    · skip
      obtain ⟨sz2, kz2, oz2, bdz2, fmz2, cdz2, hdz2⟩ := BC bdz1 pr (NN 14) (NN 2) (40 + sz) 31
      have E : M_cd sz2 = cC (cB (cA (c0 (M_cd m) (40 + sz) (NN 13)) (40 + sz) (NN Vz0)) (40 + sz) (NN 0)) (40 + sz) (NN 0) := by rw [cdz2, cdz1, cdz0, hcb]
      have E8 : M_number (M_cd sz2) 18 = NN sz := by rw [E]; exact h8
      have e9 := fin8_eq E8
      refine ⟨rz1, F9 sz2 sz, (NN Vz0), (NN 0), (NN 0), fun K => ?_, ?_, (FR1_trans (FR1_trans (FR1_refl rd0) frz0) frz1), (FM1_trans (FM1_trans (FM1_trans (FM1_refl m1) fmz0) fmz1) fmz2), (hdz2.trans (hdz1.trans (hdz0.trans rfl))), ?_, ?_⟩
      · rw [kz0, bd_some, kz1, bd_some, kz2, bd_some]
      · rw [eR, oz0, bd_some, oz1, bd_some, oz2, bd_some]
        exact e9
      · refine ⟨?_, fun j => ?_, fun j => ?_, fun j => ?_, fun j => ?_, ?_, ?_, ?_, ?_, fun j hj => ?_⟩
        · simp only [M_cd_mk, M_number_mk, M_codeSort_mk, M_codeA_mk, M_codeB_mk, M_codeC_mk, M_codeName_mk, M_codePlace_mk, M_codeTo_mk, M_labelName_mk, M_labelAt_mk, M_data_mk, E]
        · simp only [M_cd_mk, M_number_mk, M_codeSort_mk, M_codeA_mk, M_codeB_mk, M_codeC_mk, M_codeName_mk, M_codePlace_mk, M_codeTo_mk, M_labelName_mk, M_labelAt_mk, M_data_mk, E, upd_upd]
        · simp only [M_cd_mk, M_number_mk, M_codeSort_mk, M_codeA_mk, M_codeB_mk, M_codeC_mk, M_codeName_mk, M_codePlace_mk, M_codeTo_mk, M_labelName_mk, M_labelAt_mk, M_data_mk, E, upd_upd]
        · simp only [M_cd_mk, M_number_mk, M_codeSort_mk, M_codeA_mk, M_codeB_mk, M_codeC_mk, M_codeName_mk, M_codePlace_mk, M_codeTo_mk, M_labelName_mk, M_labelAt_mk, M_data_mk, E, upd_upd]
        · simp only [M_cd_mk, M_number_mk, M_codeSort_mk, M_codeA_mk, M_codeB_mk, M_codeC_mk, M_codeName_mk, M_codePlace_mk, M_codeTo_mk, M_labelName_mk, M_labelAt_mk, M_data_mk, E, upd_upd]
        · simp only [M_cd_mk, M_number_mk, M_codeSort_mk, M_codeA_mk, M_codeB_mk, M_codeC_mk, M_codeName_mk, M_codePlace_mk, M_codeTo_mk, M_labelName_mk, M_labelAt_mk, M_data_mk, E]
        · simp only [M_cd_mk, M_number_mk, M_codeSort_mk, M_codeA_mk, M_codeB_mk, M_codeC_mk, M_codeName_mk, M_codePlace_mk, M_codeTo_mk, M_labelName_mk, M_labelAt_mk, M_data_mk, E]
        · simp only [M_cd_mk, M_number_mk, M_codeSort_mk, M_codeA_mk, M_codeB_mk, M_codeC_mk, M_codeName_mk, M_codePlace_mk, M_codeTo_mk, M_labelName_mk, M_labelAt_mk, M_data_mk, E]
        · simp only [M_cd_mk, M_number_mk, M_codeSort_mk, M_codeA_mk, M_codeB_mk, M_codeC_mk, M_codeName_mk, M_codePlace_mk, M_codeTo_mk, M_labelName_mk, M_labelAt_mk, M_data_mk, E]
        · simp only [M_cd_mk, M_number_mk, M_codeSort_mk, M_codeA_mk, M_codeB_mk, M_codeC_mk, M_codeName_mk, M_codePlace_mk, M_codeTo_mk, M_labelName_mk, M_labelAt_mk, M_data_mk, E]; exact ⟨trivial, trivial⟩
      · exact Or.inr bdz2
  · skip
    obtain ⟨sz1, kz1, oz1, bdz1, fmz1, cdz1, hdz1⟩ := BB bdz0 pr (NN 14) (NN 1) (40 + sz) 7
    obtain ⟨sz2, kz2, oz2, bdz2, fmz2, cdz2, hdz2⟩ := BC bdz1 pr (NN 14) (NN 2) (40 + sz) 31
    have E : M_cd sz2 = cC (cB (cA (c0 (M_cd m) (40 + sz) (NN 13)) (40 + sz) (NN 0)) (40 + sz) (NN 0)) (40 + sz) (NN 0) := by rw [cdz2, cdz1, cdz0, hcb]
    have E8 : M_number (M_cd sz2) 18 = NN sz := by rw [E]; exact h8
    have e9 := fin8_eq E8
    refine ⟨rz0, F9 sz2 sz, (NN 0), (NN 0), (NN 0), fun K => ?_, ?_, (FR1_trans (FR1_refl rd0) frz0), (FM1_trans (FM1_trans (FM1_trans (FM1_refl m1) fmz0) fmz1) fmz2), (hdz2.trans (hdz1.trans (hdz0.trans rfl))), ?_, ?_⟩
    · rw [kz0, bd_some, kz1, bd_some, kz2, bd_some]
    · rw [eR, oz0, bd_some, oz1, bd_some, oz2, bd_some]
      exact e9
    · refine ⟨?_, fun j => ?_, fun j => ?_, fun j => ?_, fun j => ?_, ?_, ?_, ?_, ?_, fun j hj => ?_⟩
      · simp only [M_cd_mk, M_number_mk, M_codeSort_mk, M_codeA_mk, M_codeB_mk, M_codeC_mk, M_codeName_mk, M_codePlace_mk, M_codeTo_mk, M_labelName_mk, M_labelAt_mk, M_data_mk, E]
      · simp only [M_cd_mk, M_number_mk, M_codeSort_mk, M_codeA_mk, M_codeB_mk, M_codeC_mk, M_codeName_mk, M_codePlace_mk, M_codeTo_mk, M_labelName_mk, M_labelAt_mk, M_data_mk, E, upd_upd]
      · simp only [M_cd_mk, M_number_mk, M_codeSort_mk, M_codeA_mk, M_codeB_mk, M_codeC_mk, M_codeName_mk, M_codePlace_mk, M_codeTo_mk, M_labelName_mk, M_labelAt_mk, M_data_mk, E, upd_upd]
      · simp only [M_cd_mk, M_number_mk, M_codeSort_mk, M_codeA_mk, M_codeB_mk, M_codeC_mk, M_codeName_mk, M_codePlace_mk, M_codeTo_mk, M_labelName_mk, M_labelAt_mk, M_data_mk, E, upd_upd]
      · simp only [M_cd_mk, M_number_mk, M_codeSort_mk, M_codeA_mk, M_codeB_mk, M_codeC_mk, M_codeName_mk, M_codePlace_mk, M_codeTo_mk, M_labelName_mk, M_labelAt_mk, M_data_mk, E, upd_upd]
      · simp only [M_cd_mk, M_number_mk, M_codeSort_mk, M_codeA_mk, M_codeB_mk, M_codeC_mk, M_codeName_mk, M_codePlace_mk, M_codeTo_mk, M_labelName_mk, M_labelAt_mk, M_data_mk, E]
      · simp only [M_cd_mk, M_number_mk, M_codeSort_mk, M_codeA_mk, M_codeB_mk, M_codeC_mk, M_codeName_mk, M_codePlace_mk, M_codeTo_mk, M_labelName_mk, M_labelAt_mk, M_data_mk, E]
      · simp only [M_cd_mk, M_number_mk, M_codeSort_mk, M_codeA_mk, M_codeB_mk, M_codeC_mk, M_codeName_mk, M_codePlace_mk, M_codeTo_mk, M_labelName_mk, M_labelAt_mk, M_data_mk, E]
      · simp only [M_cd_mk, M_number_mk, M_codeSort_mk, M_codeA_mk, M_codeB_mk, M_codeC_mk, M_codeName_mk, M_codePlace_mk, M_codeTo_mk, M_labelName_mk, M_labelAt_mk, M_data_mk, E]
      · simp only [M_cd_mk, M_number_mk, M_codeSort_mk, M_codeA_mk, M_codeB_mk, M_codeC_mk, M_codeName_mk, M_codePlace_mk, M_codeTo_mk, M_labelName_mk, M_labelAt_mk, M_data_mk, E]; exact ⟨trivial, trivial⟩
    · exact Or.inr bdz2
set_option maxHeartbeats 4000000 in
theorem IL_15 {T : Nat → Nat} {n : Nat} {rd0 : T_Rd} {m1 m : T_M} {pl1 q1 sz : Nat} (hA : AH T n rd0 m1 pl1 q1) (hwd : WD rd0) (hsd : SD rd0) (hp0 : ∀ j, j < 3 → Rd_parts rd0 j = NN 0) (pr : T_Pg) (hps : Pg_size pr = NN sz) (hsz : sz < 40) (h8 : M_number (M_cd m) 18 = NN sz) (eg : f_M_goOn m = some m1) (hc : M_cd m1 = M_cd m) : IR T n rd0 m1 m pr 15 14 8 sz pl1 := by
  have hf1 := AH_M0 hA
  have eR := RC_14 h8 hsz eg hf1 hc
  have h0 : AH T n rd0 (sC m1 (c0 (M_cd m1) (40 + sz) (NN 14))) pl1 q1 := hA
  have hcb : M_cd (sC m1 (c0 (M_cd m1) (40 + sz) (NN 14))) = c0 (M_cd m) (40 + sz) (NN 14) := by rw [hc]; rfl
  rcases JA h0 pr (40 + sz) (w := 15) (k := 0) (s := 114) (hi := 7) (by omega) (by omega) ((congrFun ((FR1_refl rd0)).2.2.2.1 _).trans (hsd 45 (by omega))) (Or.inr (Or.inr (Or.inr (Or.inr (Or.inr (Or.inl ⟨rfl, rfl, rfl⟩)))))) with ⟨rz0, sz0, Vz0, plz0, qz0, vz0, kz0, oz0, ahz0, lez0, frz0, fmz0, pez0, waz0, tdz0, cdz0, hdz0⟩ | ⟨rz0, sz0, kz0, oz0, bdz0, frz0, fmz0, cdz0, hdz0⟩
  · skip
    have kz1 := cst_skip (pr := pr) (w := 15) (k := 1) (v := rz0) (by omega) (by omega) ((congrFun ((FR1_trans (FR1_refl rd0) frz0)).2.2.2.1 _).trans (hsd 46 (by omega)))
    have kz2 := cst_skip (pr := pr) (w := 15) (k := 2) (v := rz0) (by omega) (by omega) ((congrFun ((FR1_trans (FR1_refl rd0) frz0)).2.2.2.1 _).trans (hsd 47 (by omega)))
    have E : M_cd sz0 = cA (c0 (M_cd m) (40 + sz) (NN 14)) (40 + sz) (NN Vz0) := by rw [cdz0, hcb]
    have E8 : M_number (M_cd sz0) 18 = NN sz := by rw [E]; exact h8
    have e9 := fin8_eq E8
    refine ⟨rz0, F9 sz0 sz, (NN Vz0), (NN 0), (NN 0), fun K => ?_, ?_, (FR1_trans (FR1_refl rd0) frz0), (FM1_trans (FM1_refl m1) fmz0), (hdz0.trans rfl), ?_, ?_⟩
    · rw [kz0, bd_some, kz1, bd_some, kz2, bd_some]
    · rw [eR, oz0, bd_some]
      exact e9
    · refine ⟨?_, fun j => ?_, fun j => ?_, fun j => ?_, fun j => ?_, ?_, ?_, ?_, ?_, fun j hj => ?_⟩
      · simp only [M_cd_mk, M_number_mk, M_codeSort_mk, M_codeA_mk, M_codeB_mk, M_codeC_mk, M_codeName_mk, M_codePlace_mk, M_codeTo_mk, M_labelName_mk, M_labelAt_mk, M_data_mk, E]
      · simp only [M_cd_mk, M_number_mk, M_codeSort_mk, M_codeA_mk, M_codeB_mk, M_codeC_mk, M_codeName_mk, M_codePlace_mk, M_codeTo_mk, M_labelName_mk, M_labelAt_mk, M_data_mk, E, upd_upd]
      · simp only [M_cd_mk, M_number_mk, M_codeSort_mk, M_codeA_mk, M_codeB_mk, M_codeC_mk, M_codeName_mk, M_codePlace_mk, M_codeTo_mk, M_labelName_mk, M_labelAt_mk, M_data_mk, E, upd_upd]
      · simp only [M_cd_mk, M_number_mk, M_codeSort_mk, M_codeA_mk, M_codeB_mk, M_codeC_mk, M_codeName_mk, M_codePlace_mk, M_codeTo_mk, M_labelName_mk, M_labelAt_mk, M_data_mk, E, upd_upd]
      · simp only [M_cd_mk, M_number_mk, M_codeSort_mk, M_codeA_mk, M_codeB_mk, M_codeC_mk, M_codeName_mk, M_codePlace_mk, M_codeTo_mk, M_labelName_mk, M_labelAt_mk, M_data_mk, E, upd_upd]
      · simp only [M_cd_mk, M_number_mk, M_codeSort_mk, M_codeA_mk, M_codeB_mk, M_codeC_mk, M_codeName_mk, M_codePlace_mk, M_codeTo_mk, M_labelName_mk, M_labelAt_mk, M_data_mk, E]
      · simp only [M_cd_mk, M_number_mk, M_codeSort_mk, M_codeA_mk, M_codeB_mk, M_codeC_mk, M_codeName_mk, M_codePlace_mk, M_codeTo_mk, M_labelName_mk, M_labelAt_mk, M_data_mk, E]
      · simp only [M_cd_mk, M_number_mk, M_codeSort_mk, M_codeA_mk, M_codeB_mk, M_codeC_mk, M_codeName_mk, M_codePlace_mk, M_codeTo_mk, M_labelName_mk, M_labelAt_mk, M_data_mk, E]
      · simp only [M_cd_mk, M_number_mk, M_codeSort_mk, M_codeA_mk, M_codeB_mk, M_codeC_mk, M_codeName_mk, M_codePlace_mk, M_codeTo_mk, M_labelName_mk, M_labelAt_mk, M_data_mk, E]
      · simp only [M_cd_mk, M_number_mk, M_codeSort_mk, M_codeA_mk, M_codeB_mk, M_codeC_mk, M_codeName_mk, M_codePlace_mk, M_codeTo_mk, M_labelName_mk, M_labelAt_mk, M_data_mk, E]; exact ⟨trivial, trivial⟩
    · refine Or.inl ⟨plz0, qz0, ahz0, (Nat.le_trans (Nat.le_refl pl1) lez0), (tdz0.trans rfl), ⟨Vz0, 0, 0, ?_, rfl, rfl, ?_, ?_, ?_, ?_⟩⟩
      · refine ⟨by omega, by omega, by omega, by omega, ?_, ?_, ?_, ?_, ?_, ?_, ?_⟩ <;> omega
      · rw [pez0]; exact upd_at rfl
      · rw [pez0, upd_ne (by omega)]; exact hp0 1 (by omega)
      · intro _
        refine ⟨rfl, ?_, waz0⟩
        rw [pez0, upd_ne (by omega)]; exact hp0 2 (by omega)
      · intro hx; omega
  · skip
    have kz1 := cst_skip (pr := pr) (w := 15) (k := 1) (v := rz0) (by omega) (by omega) ((congrFun ((FR1_trans (FR1_refl rd0) frz0)).2.2.2.1 _).trans (hsd 46 (by omega)))
    have kz2 := cst_skip (pr := pr) (w := 15) (k := 2) (v := rz0) (by omega) (by omega) ((congrFun ((FR1_trans (FR1_refl rd0) frz0)).2.2.2.1 _).trans (hsd 47 (by omega)))
    have E : M_cd sz0 = cA (c0 (M_cd m) (40 + sz) (NN 14)) (40 + sz) (NN 0) := by rw [cdz0, hcb]
    have E8 : M_number (M_cd sz0) 18 = NN sz := by rw [E]; exact h8
    have e9 := fin8_eq E8
    refine ⟨rz0, F9 sz0 sz, (NN 0), (NN 0), (NN 0), fun K => ?_, ?_, (FR1_trans (FR1_refl rd0) frz0), (FM1_trans (FM1_refl m1) fmz0), (hdz0.trans rfl), ?_, ?_⟩
    · rw [kz0, bd_some, kz1, bd_some, kz2, bd_some]
    · rw [eR, oz0, bd_some]
      exact e9
    · refine ⟨?_, fun j => ?_, fun j => ?_, fun j => ?_, fun j => ?_, ?_, ?_, ?_, ?_, fun j hj => ?_⟩
      · simp only [M_cd_mk, M_number_mk, M_codeSort_mk, M_codeA_mk, M_codeB_mk, M_codeC_mk, M_codeName_mk, M_codePlace_mk, M_codeTo_mk, M_labelName_mk, M_labelAt_mk, M_data_mk, E]
      · simp only [M_cd_mk, M_number_mk, M_codeSort_mk, M_codeA_mk, M_codeB_mk, M_codeC_mk, M_codeName_mk, M_codePlace_mk, M_codeTo_mk, M_labelName_mk, M_labelAt_mk, M_data_mk, E, upd_upd]
      · simp only [M_cd_mk, M_number_mk, M_codeSort_mk, M_codeA_mk, M_codeB_mk, M_codeC_mk, M_codeName_mk, M_codePlace_mk, M_codeTo_mk, M_labelName_mk, M_labelAt_mk, M_data_mk, E, upd_upd]
      · simp only [M_cd_mk, M_number_mk, M_codeSort_mk, M_codeA_mk, M_codeB_mk, M_codeC_mk, M_codeName_mk, M_codePlace_mk, M_codeTo_mk, M_labelName_mk, M_labelAt_mk, M_data_mk, E, upd_upd]
      · simp only [M_cd_mk, M_number_mk, M_codeSort_mk, M_codeA_mk, M_codeB_mk, M_codeC_mk, M_codeName_mk, M_codePlace_mk, M_codeTo_mk, M_labelName_mk, M_labelAt_mk, M_data_mk, E, upd_upd]
      · simp only [M_cd_mk, M_number_mk, M_codeSort_mk, M_codeA_mk, M_codeB_mk, M_codeC_mk, M_codeName_mk, M_codePlace_mk, M_codeTo_mk, M_labelName_mk, M_labelAt_mk, M_data_mk, E]
      · simp only [M_cd_mk, M_number_mk, M_codeSort_mk, M_codeA_mk, M_codeB_mk, M_codeC_mk, M_codeName_mk, M_codePlace_mk, M_codeTo_mk, M_labelName_mk, M_labelAt_mk, M_data_mk, E]
      · simp only [M_cd_mk, M_number_mk, M_codeSort_mk, M_codeA_mk, M_codeB_mk, M_codeC_mk, M_codeName_mk, M_codePlace_mk, M_codeTo_mk, M_labelName_mk, M_labelAt_mk, M_data_mk, E]
      · simp only [M_cd_mk, M_number_mk, M_codeSort_mk, M_codeA_mk, M_codeB_mk, M_codeC_mk, M_codeName_mk, M_codePlace_mk, M_codeTo_mk, M_labelName_mk, M_labelAt_mk, M_data_mk, E]
      · simp only [M_cd_mk, M_number_mk, M_codeSort_mk, M_codeA_mk, M_codeB_mk, M_codeC_mk, M_codeName_mk, M_codePlace_mk, M_codeTo_mk, M_labelName_mk, M_labelAt_mk, M_data_mk, E]; exact ⟨trivial, trivial⟩
    · exact Or.inr bdz0
set_option maxHeartbeats 4000000 in
theorem IL_16 {T : Nat → Nat} {n : Nat} {rd0 : T_Rd} {m1 m : T_M} {pl1 q1 sz : Nat} (hA : AH T n rd0 m1 pl1 q1) (hwd : WD rd0) (hsd : SD rd0) (hp0 : ∀ j, j < 3 → Rd_parts rd0 j = NN 0) (pr : T_Pg) (hps : Pg_size pr = NN sz) (hsz : sz < 40) (h8 : M_number (M_cd m) 18 = NN sz) (eg : f_M_goOn m = some m1) (hc : M_cd m1 = M_cd m) : IR T n rd0 m1 m pr 16 15 9 sz pl1 := by
  have hf1 := AH_M0 hA
  have eR := RC_15 h8 hsz eg hf1 hc
  have h0 : AH T n rd0 (sC m1 (c0 (M_cd m1) (40 + sz) (NN 15))) pl1 q1 := hA
  have hcb : M_cd (sC m1 (c0 (M_cd m1) (40 + sz) (NN 15))) = c0 (M_cd m) (40 + sz) (NN 15) := by rw [hc]; rfl
  rcases JA h0 pr (40 + sz) (w := 16) (k := 0) (s := 102) (hi := 3) (by omega) (by omega) ((congrFun ((FR1_refl rd0)).2.2.2.1 _).trans (hsd 48 (by omega))) (Or.inr (Or.inr (Or.inr (Or.inr (Or.inr (Or.inr (Or.inl ⟨rfl, rfl, rfl⟩))))))) with ⟨rz0, sz0, Vz0, plz0, qz0, vz0, kz0, oz0, ahz0, lez0, frz0, fmz0, pez0, waz0, tdz0, cdz0, hdz0⟩ | ⟨rz0, sz0, kz0, oz0, bdz0, frz0, fmz0, cdz0, hdz0⟩
  · skip
    rcases JB ahz0 pr (40 + sz) (w := 16) (k := 1) (s := 114) (hi := 7) (by omega) (by omega) ((congrFun ((FR1_trans (FR1_refl rd0) frz0)).2.2.2.1 _).trans (hsd 49 (by omega))) (Or.inr (Or.inr (Or.inr (Or.inr (Or.inr (Or.inl ⟨rfl, rfl, rfl⟩)))))) with ⟨rz1, sz1, Vz1, plz1, qz1, vz1, kz1, oz1, ahz1, lez1, frz1, fmz1, pez1, waz1, tdz1, cdz1, hdz1⟩ | ⟨rz1, sz1, kz1, oz1, bdz1, frz1, fmz1, cdz1, hdz1⟩
    · skip
      have kz2 := cst_skip (pr := pr) (w := 16) (k := 2) (v := rz1) (by omega) (by omega) ((congrFun ((FR1_trans (FR1_trans (FR1_refl rd0) frz0) frz1)).2.2.2.1 _).trans (hsd 50 (by omega)))
      have E : M_cd sz1 = cB (cA (c0 (M_cd m) (40 + sz) (NN 15)) (40 + sz) (NN Vz0)) (40 + sz) (NN Vz1) := by rw [cdz1, cdz0, hcb]
      have E8 : M_number (M_cd sz1) 18 = NN sz := by rw [E]; exact h8
      have e9 := fin8_eq E8
      refine ⟨rz1, F9 sz1 sz, (NN Vz0), (NN Vz1), (NN 0), fun K => ?_, ?_, (FR1_trans (FR1_trans (FR1_refl rd0) frz0) frz1), (FM1_trans (FM1_trans (FM1_refl m1) fmz0) fmz1), (hdz1.trans (hdz0.trans rfl)), ?_, ?_⟩
      · rw [kz0, bd_some, kz1, bd_some, kz2, bd_some]
      · rw [eR, oz0, bd_some, oz1, bd_some]
        exact e9
      · refine ⟨?_, fun j => ?_, fun j => ?_, fun j => ?_, fun j => ?_, ?_, ?_, ?_, ?_, fun j hj => ?_⟩
        · simp only [M_cd_mk, M_number_mk, M_codeSort_mk, M_codeA_mk, M_codeB_mk, M_codeC_mk, M_codeName_mk, M_codePlace_mk, M_codeTo_mk, M_labelName_mk, M_labelAt_mk, M_data_mk, E]
        · simp only [M_cd_mk, M_number_mk, M_codeSort_mk, M_codeA_mk, M_codeB_mk, M_codeC_mk, M_codeName_mk, M_codePlace_mk, M_codeTo_mk, M_labelName_mk, M_labelAt_mk, M_data_mk, E, upd_upd]
        · simp only [M_cd_mk, M_number_mk, M_codeSort_mk, M_codeA_mk, M_codeB_mk, M_codeC_mk, M_codeName_mk, M_codePlace_mk, M_codeTo_mk, M_labelName_mk, M_labelAt_mk, M_data_mk, E, upd_upd]
        · simp only [M_cd_mk, M_number_mk, M_codeSort_mk, M_codeA_mk, M_codeB_mk, M_codeC_mk, M_codeName_mk, M_codePlace_mk, M_codeTo_mk, M_labelName_mk, M_labelAt_mk, M_data_mk, E, upd_upd]
        · simp only [M_cd_mk, M_number_mk, M_codeSort_mk, M_codeA_mk, M_codeB_mk, M_codeC_mk, M_codeName_mk, M_codePlace_mk, M_codeTo_mk, M_labelName_mk, M_labelAt_mk, M_data_mk, E, upd_upd]
        · simp only [M_cd_mk, M_number_mk, M_codeSort_mk, M_codeA_mk, M_codeB_mk, M_codeC_mk, M_codeName_mk, M_codePlace_mk, M_codeTo_mk, M_labelName_mk, M_labelAt_mk, M_data_mk, E]
        · simp only [M_cd_mk, M_number_mk, M_codeSort_mk, M_codeA_mk, M_codeB_mk, M_codeC_mk, M_codeName_mk, M_codePlace_mk, M_codeTo_mk, M_labelName_mk, M_labelAt_mk, M_data_mk, E]
        · simp only [M_cd_mk, M_number_mk, M_codeSort_mk, M_codeA_mk, M_codeB_mk, M_codeC_mk, M_codeName_mk, M_codePlace_mk, M_codeTo_mk, M_labelName_mk, M_labelAt_mk, M_data_mk, E]
        · simp only [M_cd_mk, M_number_mk, M_codeSort_mk, M_codeA_mk, M_codeB_mk, M_codeC_mk, M_codeName_mk, M_codePlace_mk, M_codeTo_mk, M_labelName_mk, M_labelAt_mk, M_data_mk, E]
        · simp only [M_cd_mk, M_number_mk, M_codeSort_mk, M_codeA_mk, M_codeB_mk, M_codeC_mk, M_codeName_mk, M_codePlace_mk, M_codeTo_mk, M_labelName_mk, M_labelAt_mk, M_data_mk, E]; exact ⟨trivial, trivial⟩
      · refine Or.inl ⟨plz1, qz1, ahz1, (Nat.le_trans (Nat.le_trans (Nat.le_refl pl1) lez0) lez1), (tdz1.trans (tdz0.trans rfl)), ⟨Vz0, Vz1, 0, ?_, rfl, rfl, ?_, ?_, ?_, ?_⟩⟩
        · refine ⟨by omega, by omega, by omega, by omega, ?_, ?_, ?_, ?_, ?_, ?_, ?_⟩ <;> omega
        · rw [pez1, upd_ne (by omega)]; rw [pez0]; exact upd_at rfl
        · rw [pez1]; exact upd_at rfl
        · intro _
          refine ⟨rfl, ?_, (waz1.trans waz0)⟩
          rw [pez1, upd_ne (by omega)]; rw [pez0, upd_ne (by omega)]; exact hp0 2 (by omega)
        · intro hx; omega
    · skip
      have kz2 := cst_skip (pr := pr) (w := 16) (k := 2) (v := rz1) (by omega) (by omega) ((congrFun ((FR1_trans (FR1_trans (FR1_refl rd0) frz0) frz1)).2.2.2.1 _).trans (hsd 50 (by omega)))
      have E : M_cd sz1 = cB (cA (c0 (M_cd m) (40 + sz) (NN 15)) (40 + sz) (NN Vz0)) (40 + sz) (NN 0) := by rw [cdz1, cdz0, hcb]
      have E8 : M_number (M_cd sz1) 18 = NN sz := by rw [E]; exact h8
      have e9 := fin8_eq E8
      refine ⟨rz1, F9 sz1 sz, (NN Vz0), (NN 0), (NN 0), fun K => ?_, ?_, (FR1_trans (FR1_trans (FR1_refl rd0) frz0) frz1), (FM1_trans (FM1_trans (FM1_refl m1) fmz0) fmz1), (hdz1.trans (hdz0.trans rfl)), ?_, ?_⟩
      · rw [kz0, bd_some, kz1, bd_some, kz2, bd_some]
      · rw [eR, oz0, bd_some, oz1, bd_some]
        exact e9
      · refine ⟨?_, fun j => ?_, fun j => ?_, fun j => ?_, fun j => ?_, ?_, ?_, ?_, ?_, fun j hj => ?_⟩
        · simp only [M_cd_mk, M_number_mk, M_codeSort_mk, M_codeA_mk, M_codeB_mk, M_codeC_mk, M_codeName_mk, M_codePlace_mk, M_codeTo_mk, M_labelName_mk, M_labelAt_mk, M_data_mk, E]
        · simp only [M_cd_mk, M_number_mk, M_codeSort_mk, M_codeA_mk, M_codeB_mk, M_codeC_mk, M_codeName_mk, M_codePlace_mk, M_codeTo_mk, M_labelName_mk, M_labelAt_mk, M_data_mk, E, upd_upd]
        · simp only [M_cd_mk, M_number_mk, M_codeSort_mk, M_codeA_mk, M_codeB_mk, M_codeC_mk, M_codeName_mk, M_codePlace_mk, M_codeTo_mk, M_labelName_mk, M_labelAt_mk, M_data_mk, E, upd_upd]
        · simp only [M_cd_mk, M_number_mk, M_codeSort_mk, M_codeA_mk, M_codeB_mk, M_codeC_mk, M_codeName_mk, M_codePlace_mk, M_codeTo_mk, M_labelName_mk, M_labelAt_mk, M_data_mk, E, upd_upd]
        · simp only [M_cd_mk, M_number_mk, M_codeSort_mk, M_codeA_mk, M_codeB_mk, M_codeC_mk, M_codeName_mk, M_codePlace_mk, M_codeTo_mk, M_labelName_mk, M_labelAt_mk, M_data_mk, E, upd_upd]
        · simp only [M_cd_mk, M_number_mk, M_codeSort_mk, M_codeA_mk, M_codeB_mk, M_codeC_mk, M_codeName_mk, M_codePlace_mk, M_codeTo_mk, M_labelName_mk, M_labelAt_mk, M_data_mk, E]
        · simp only [M_cd_mk, M_number_mk, M_codeSort_mk, M_codeA_mk, M_codeB_mk, M_codeC_mk, M_codeName_mk, M_codePlace_mk, M_codeTo_mk, M_labelName_mk, M_labelAt_mk, M_data_mk, E]
        · simp only [M_cd_mk, M_number_mk, M_codeSort_mk, M_codeA_mk, M_codeB_mk, M_codeC_mk, M_codeName_mk, M_codePlace_mk, M_codeTo_mk, M_labelName_mk, M_labelAt_mk, M_data_mk, E]
        · simp only [M_cd_mk, M_number_mk, M_codeSort_mk, M_codeA_mk, M_codeB_mk, M_codeC_mk, M_codeName_mk, M_codePlace_mk, M_codeTo_mk, M_labelName_mk, M_labelAt_mk, M_data_mk, E]
        · simp only [M_cd_mk, M_number_mk, M_codeSort_mk, M_codeA_mk, M_codeB_mk, M_codeC_mk, M_codeName_mk, M_codePlace_mk, M_codeTo_mk, M_labelName_mk, M_labelAt_mk, M_data_mk, E]; exact ⟨trivial, trivial⟩
      · exact Or.inr bdz1
  · skip
    obtain ⟨sz1, kz1, oz1, bdz1, fmz1, cdz1, hdz1⟩ := BB bdz0 pr (NN 16) (NN 1) (40 + sz) 7
    have kz2 := cst_skip (pr := pr) (w := 16) (k := 2) (v := rz0) (by omega) (by omega) ((congrFun ((FR1_trans (FR1_refl rd0) frz0)).2.2.2.1 _).trans (hsd 50 (by omega)))
    have E : M_cd sz1 = cB (cA (c0 (M_cd m) (40 + sz) (NN 15)) (40 + sz) (NN 0)) (40 + sz) (NN 0) := by rw [cdz1, cdz0, hcb]
    have E8 : M_number (M_cd sz1) 18 = NN sz := by rw [E]; exact h8
    have e9 := fin8_eq E8
    refine ⟨rz0, F9 sz1 sz, (NN 0), (NN 0), (NN 0), fun K => ?_, ?_, (FR1_trans (FR1_refl rd0) frz0), (FM1_trans (FM1_trans (FM1_refl m1) fmz0) fmz1), (hdz1.trans (hdz0.trans rfl)), ?_, ?_⟩
    · rw [kz0, bd_some, kz1, bd_some, kz2, bd_some]
    · rw [eR, oz0, bd_some, oz1, bd_some]
      exact e9
    · refine ⟨?_, fun j => ?_, fun j => ?_, fun j => ?_, fun j => ?_, ?_, ?_, ?_, ?_, fun j hj => ?_⟩
      · simp only [M_cd_mk, M_number_mk, M_codeSort_mk, M_codeA_mk, M_codeB_mk, M_codeC_mk, M_codeName_mk, M_codePlace_mk, M_codeTo_mk, M_labelName_mk, M_labelAt_mk, M_data_mk, E]
      · simp only [M_cd_mk, M_number_mk, M_codeSort_mk, M_codeA_mk, M_codeB_mk, M_codeC_mk, M_codeName_mk, M_codePlace_mk, M_codeTo_mk, M_labelName_mk, M_labelAt_mk, M_data_mk, E, upd_upd]
      · simp only [M_cd_mk, M_number_mk, M_codeSort_mk, M_codeA_mk, M_codeB_mk, M_codeC_mk, M_codeName_mk, M_codePlace_mk, M_codeTo_mk, M_labelName_mk, M_labelAt_mk, M_data_mk, E, upd_upd]
      · simp only [M_cd_mk, M_number_mk, M_codeSort_mk, M_codeA_mk, M_codeB_mk, M_codeC_mk, M_codeName_mk, M_codePlace_mk, M_codeTo_mk, M_labelName_mk, M_labelAt_mk, M_data_mk, E, upd_upd]
      · simp only [M_cd_mk, M_number_mk, M_codeSort_mk, M_codeA_mk, M_codeB_mk, M_codeC_mk, M_codeName_mk, M_codePlace_mk, M_codeTo_mk, M_labelName_mk, M_labelAt_mk, M_data_mk, E, upd_upd]
      · simp only [M_cd_mk, M_number_mk, M_codeSort_mk, M_codeA_mk, M_codeB_mk, M_codeC_mk, M_codeName_mk, M_codePlace_mk, M_codeTo_mk, M_labelName_mk, M_labelAt_mk, M_data_mk, E]
      · simp only [M_cd_mk, M_number_mk, M_codeSort_mk, M_codeA_mk, M_codeB_mk, M_codeC_mk, M_codeName_mk, M_codePlace_mk, M_codeTo_mk, M_labelName_mk, M_labelAt_mk, M_data_mk, E]
      · simp only [M_cd_mk, M_number_mk, M_codeSort_mk, M_codeA_mk, M_codeB_mk, M_codeC_mk, M_codeName_mk, M_codePlace_mk, M_codeTo_mk, M_labelName_mk, M_labelAt_mk, M_data_mk, E]
      · simp only [M_cd_mk, M_number_mk, M_codeSort_mk, M_codeA_mk, M_codeB_mk, M_codeC_mk, M_codeName_mk, M_codePlace_mk, M_codeTo_mk, M_labelName_mk, M_labelAt_mk, M_data_mk, E]
      · simp only [M_cd_mk, M_number_mk, M_codeSort_mk, M_codeA_mk, M_codeB_mk, M_codeC_mk, M_codeName_mk, M_codePlace_mk, M_codeTo_mk, M_labelName_mk, M_labelAt_mk, M_data_mk, E]; exact ⟨trivial, trivial⟩
    · exact Or.inr bdz1
set_option maxHeartbeats 4000000 in
theorem IL_17 {T : Nat → Nat} {n : Nat} {rd0 : T_Rd} {m1 m : T_M} {pl1 q1 sz : Nat} (hA : AH T n rd0 m1 pl1 q1) (hwd : WD rd0) (hsd : SD rd0) (hp0 : ∀ j, j < 3 → Rd_parts rd0 j = NN 0) (pr : T_Pg) (hps : Pg_size pr = NN sz) (hsz : sz < 40) (h8 : M_number (M_cd m) 18 = NN sz) (eg : f_M_goOn m = some m1) (hc : M_cd m1 = M_cd m) : IR T n rd0 m1 m pr 17 16 10 sz pl1 := by
  have hf1 := AH_M0 hA
  have eR := RC_16 h8 hsz eg hf1 hc
  have h0 : AH T n rd0 (sC m1 (c0 (M_cd m1) (40 + sz) (NN 16))) pl1 q1 := hA
  have hcb : M_cd (sC m1 (c0 (M_cd m1) (40 + sz) (NN 16))) = c0 (M_cd m) (40 + sz) (NN 16) := by rw [hc]; rfl
  rcases JA h0 pr (40 + sz) (w := 17) (k := 0) (s := 114) (hi := 7) (by omega) (by omega) ((congrFun ((FR1_refl rd0)).2.2.2.1 _).trans (hsd 51 (by omega))) (Or.inr (Or.inr (Or.inr (Or.inr (Or.inr (Or.inl ⟨rfl, rfl, rfl⟩)))))) with ⟨rz0, sz0, Vz0, plz0, qz0, vz0, kz0, oz0, ahz0, lez0, frz0, fmz0, pez0, waz0, tdz0, cdz0, hdz0⟩ | ⟨rz0, sz0, kz0, oz0, bdz0, frz0, fmz0, cdz0, hdz0⟩
  · skip
    rcases JB ahz0 pr (40 + sz) (w := 17) (k := 1) (s := 102) (hi := 3) (by omega) (by omega) ((congrFun ((FR1_trans (FR1_refl rd0) frz0)).2.2.2.1 _).trans (hsd 52 (by omega))) (Or.inr (Or.inr (Or.inr (Or.inr (Or.inr (Or.inr (Or.inl ⟨rfl, rfl, rfl⟩))))))) with ⟨rz1, sz1, Vz1, plz1, qz1, vz1, kz1, oz1, ahz1, lez1, frz1, fmz1, pez1, waz1, tdz1, cdz1, hdz1⟩ | ⟨rz1, sz1, kz1, oz1, bdz1, frz1, fmz1, cdz1, hdz1⟩
    · skip
      have kz2 := cst_skip (pr := pr) (w := 17) (k := 2) (v := rz1) (by omega) (by omega) ((congrFun ((FR1_trans (FR1_trans (FR1_refl rd0) frz0) frz1)).2.2.2.1 _).trans (hsd 53 (by omega)))
      have E : M_cd sz1 = cB (cA (c0 (M_cd m) (40 + sz) (NN 16)) (40 + sz) (NN Vz0)) (40 + sz) (NN Vz1) := by rw [cdz1, cdz0, hcb]
      have E8 : M_number (M_cd sz1) 18 = NN sz := by rw [E]; exact h8
      have e9 := fin8_eq E8
      refine ⟨rz1, F9 sz1 sz, (NN Vz0), (NN Vz1), (NN 0), fun K => ?_, ?_, (FR1_trans (FR1_trans (FR1_refl rd0) frz0) frz1), (FM1_trans (FM1_trans (FM1_refl m1) fmz0) fmz1), (hdz1.trans (hdz0.trans rfl)), ?_, ?_⟩
      · rw [kz0, bd_some, kz1, bd_some, kz2, bd_some]
      · rw [eR, oz0, bd_some, oz1, bd_some]
        exact e9
      · refine ⟨?_, fun j => ?_, fun j => ?_, fun j => ?_, fun j => ?_, ?_, ?_, ?_, ?_, fun j hj => ?_⟩
        · simp only [M_cd_mk, M_number_mk, M_codeSort_mk, M_codeA_mk, M_codeB_mk, M_codeC_mk, M_codeName_mk, M_codePlace_mk, M_codeTo_mk, M_labelName_mk, M_labelAt_mk, M_data_mk, E]
        · simp only [M_cd_mk, M_number_mk, M_codeSort_mk, M_codeA_mk, M_codeB_mk, M_codeC_mk, M_codeName_mk, M_codePlace_mk, M_codeTo_mk, M_labelName_mk, M_labelAt_mk, M_data_mk, E, upd_upd]
        · simp only [M_cd_mk, M_number_mk, M_codeSort_mk, M_codeA_mk, M_codeB_mk, M_codeC_mk, M_codeName_mk, M_codePlace_mk, M_codeTo_mk, M_labelName_mk, M_labelAt_mk, M_data_mk, E, upd_upd]
        · simp only [M_cd_mk, M_number_mk, M_codeSort_mk, M_codeA_mk, M_codeB_mk, M_codeC_mk, M_codeName_mk, M_codePlace_mk, M_codeTo_mk, M_labelName_mk, M_labelAt_mk, M_data_mk, E, upd_upd]
        · simp only [M_cd_mk, M_number_mk, M_codeSort_mk, M_codeA_mk, M_codeB_mk, M_codeC_mk, M_codeName_mk, M_codePlace_mk, M_codeTo_mk, M_labelName_mk, M_labelAt_mk, M_data_mk, E, upd_upd]
        · simp only [M_cd_mk, M_number_mk, M_codeSort_mk, M_codeA_mk, M_codeB_mk, M_codeC_mk, M_codeName_mk, M_codePlace_mk, M_codeTo_mk, M_labelName_mk, M_labelAt_mk, M_data_mk, E]
        · simp only [M_cd_mk, M_number_mk, M_codeSort_mk, M_codeA_mk, M_codeB_mk, M_codeC_mk, M_codeName_mk, M_codePlace_mk, M_codeTo_mk, M_labelName_mk, M_labelAt_mk, M_data_mk, E]
        · simp only [M_cd_mk, M_number_mk, M_codeSort_mk, M_codeA_mk, M_codeB_mk, M_codeC_mk, M_codeName_mk, M_codePlace_mk, M_codeTo_mk, M_labelName_mk, M_labelAt_mk, M_data_mk, E]
        · simp only [M_cd_mk, M_number_mk, M_codeSort_mk, M_codeA_mk, M_codeB_mk, M_codeC_mk, M_codeName_mk, M_codePlace_mk, M_codeTo_mk, M_labelName_mk, M_labelAt_mk, M_data_mk, E]
        · simp only [M_cd_mk, M_number_mk, M_codeSort_mk, M_codeA_mk, M_codeB_mk, M_codeC_mk, M_codeName_mk, M_codePlace_mk, M_codeTo_mk, M_labelName_mk, M_labelAt_mk, M_data_mk, E]; exact ⟨trivial, trivial⟩
      · refine Or.inl ⟨plz1, qz1, ahz1, (Nat.le_trans (Nat.le_trans (Nat.le_refl pl1) lez0) lez1), (tdz1.trans (tdz0.trans rfl)), ⟨Vz0, Vz1, 0, ?_, rfl, rfl, ?_, ?_, ?_, ?_⟩⟩
        · refine ⟨by omega, by omega, by omega, by omega, ?_, ?_, ?_, ?_, ?_, ?_, ?_⟩ <;> omega
        · rw [pez1, upd_ne (by omega)]; rw [pez0]; exact upd_at rfl
        · rw [pez1]; exact upd_at rfl
        · intro _
          refine ⟨rfl, ?_, (waz1.trans waz0)⟩
          rw [pez1, upd_ne (by omega)]; rw [pez0, upd_ne (by omega)]; exact hp0 2 (by omega)
        · intro hx; omega
    · skip
      have kz2 := cst_skip (pr := pr) (w := 17) (k := 2) (v := rz1) (by omega) (by omega) ((congrFun ((FR1_trans (FR1_trans (FR1_refl rd0) frz0) frz1)).2.2.2.1 _).trans (hsd 53 (by omega)))
      have E : M_cd sz1 = cB (cA (c0 (M_cd m) (40 + sz) (NN 16)) (40 + sz) (NN Vz0)) (40 + sz) (NN 0) := by rw [cdz1, cdz0, hcb]
      have E8 : M_number (M_cd sz1) 18 = NN sz := by rw [E]; exact h8
      have e9 := fin8_eq E8
      refine ⟨rz1, F9 sz1 sz, (NN Vz0), (NN 0), (NN 0), fun K => ?_, ?_, (FR1_trans (FR1_trans (FR1_refl rd0) frz0) frz1), (FM1_trans (FM1_trans (FM1_refl m1) fmz0) fmz1), (hdz1.trans (hdz0.trans rfl)), ?_, ?_⟩
      · rw [kz0, bd_some, kz1, bd_some, kz2, bd_some]
      · rw [eR, oz0, bd_some, oz1, bd_some]
        exact e9
      · refine ⟨?_, fun j => ?_, fun j => ?_, fun j => ?_, fun j => ?_, ?_, ?_, ?_, ?_, fun j hj => ?_⟩
        · simp only [M_cd_mk, M_number_mk, M_codeSort_mk, M_codeA_mk, M_codeB_mk, M_codeC_mk, M_codeName_mk, M_codePlace_mk, M_codeTo_mk, M_labelName_mk, M_labelAt_mk, M_data_mk, E]
        · simp only [M_cd_mk, M_number_mk, M_codeSort_mk, M_codeA_mk, M_codeB_mk, M_codeC_mk, M_codeName_mk, M_codePlace_mk, M_codeTo_mk, M_labelName_mk, M_labelAt_mk, M_data_mk, E, upd_upd]
        · simp only [M_cd_mk, M_number_mk, M_codeSort_mk, M_codeA_mk, M_codeB_mk, M_codeC_mk, M_codeName_mk, M_codePlace_mk, M_codeTo_mk, M_labelName_mk, M_labelAt_mk, M_data_mk, E, upd_upd]
        · simp only [M_cd_mk, M_number_mk, M_codeSort_mk, M_codeA_mk, M_codeB_mk, M_codeC_mk, M_codeName_mk, M_codePlace_mk, M_codeTo_mk, M_labelName_mk, M_labelAt_mk, M_data_mk, E, upd_upd]
        · simp only [M_cd_mk, M_number_mk, M_codeSort_mk, M_codeA_mk, M_codeB_mk, M_codeC_mk, M_codeName_mk, M_codePlace_mk, M_codeTo_mk, M_labelName_mk, M_labelAt_mk, M_data_mk, E, upd_upd]
        · simp only [M_cd_mk, M_number_mk, M_codeSort_mk, M_codeA_mk, M_codeB_mk, M_codeC_mk, M_codeName_mk, M_codePlace_mk, M_codeTo_mk, M_labelName_mk, M_labelAt_mk, M_data_mk, E]
        · simp only [M_cd_mk, M_number_mk, M_codeSort_mk, M_codeA_mk, M_codeB_mk, M_codeC_mk, M_codeName_mk, M_codePlace_mk, M_codeTo_mk, M_labelName_mk, M_labelAt_mk, M_data_mk, E]
        · simp only [M_cd_mk, M_number_mk, M_codeSort_mk, M_codeA_mk, M_codeB_mk, M_codeC_mk, M_codeName_mk, M_codePlace_mk, M_codeTo_mk, M_labelName_mk, M_labelAt_mk, M_data_mk, E]
        · simp only [M_cd_mk, M_number_mk, M_codeSort_mk, M_codeA_mk, M_codeB_mk, M_codeC_mk, M_codeName_mk, M_codePlace_mk, M_codeTo_mk, M_labelName_mk, M_labelAt_mk, M_data_mk, E]
        · simp only [M_cd_mk, M_number_mk, M_codeSort_mk, M_codeA_mk, M_codeB_mk, M_codeC_mk, M_codeName_mk, M_codePlace_mk, M_codeTo_mk, M_labelName_mk, M_labelAt_mk, M_data_mk, E]; exact ⟨trivial, trivial⟩
      · exact Or.inr bdz1
  · skip
    obtain ⟨sz1, kz1, oz1, bdz1, fmz1, cdz1, hdz1⟩ := BB bdz0 pr (NN 17) (NN 1) (40 + sz) 3
    have kz2 := cst_skip (pr := pr) (w := 17) (k := 2) (v := rz0) (by omega) (by omega) ((congrFun ((FR1_trans (FR1_refl rd0) frz0)).2.2.2.1 _).trans (hsd 53 (by omega)))
    have E : M_cd sz1 = cB (cA (c0 (M_cd m) (40 + sz) (NN 16)) (40 + sz) (NN 0)) (40 + sz) (NN 0) := by rw [cdz1, cdz0, hcb]
    have E8 : M_number (M_cd sz1) 18 = NN sz := by rw [E]; exact h8
    have e9 := fin8_eq E8
    refine ⟨rz0, F9 sz1 sz, (NN 0), (NN 0), (NN 0), fun K => ?_, ?_, (FR1_trans (FR1_refl rd0) frz0), (FM1_trans (FM1_trans (FM1_refl m1) fmz0) fmz1), (hdz1.trans (hdz0.trans rfl)), ?_, ?_⟩
    · rw [kz0, bd_some, kz1, bd_some, kz2, bd_some]
    · rw [eR, oz0, bd_some, oz1, bd_some]
      exact e9
    · refine ⟨?_, fun j => ?_, fun j => ?_, fun j => ?_, fun j => ?_, ?_, ?_, ?_, ?_, fun j hj => ?_⟩
      · simp only [M_cd_mk, M_number_mk, M_codeSort_mk, M_codeA_mk, M_codeB_mk, M_codeC_mk, M_codeName_mk, M_codePlace_mk, M_codeTo_mk, M_labelName_mk, M_labelAt_mk, M_data_mk, E]
      · simp only [M_cd_mk, M_number_mk, M_codeSort_mk, M_codeA_mk, M_codeB_mk, M_codeC_mk, M_codeName_mk, M_codePlace_mk, M_codeTo_mk, M_labelName_mk, M_labelAt_mk, M_data_mk, E, upd_upd]
      · simp only [M_cd_mk, M_number_mk, M_codeSort_mk, M_codeA_mk, M_codeB_mk, M_codeC_mk, M_codeName_mk, M_codePlace_mk, M_codeTo_mk, M_labelName_mk, M_labelAt_mk, M_data_mk, E, upd_upd]
      · simp only [M_cd_mk, M_number_mk, M_codeSort_mk, M_codeA_mk, M_codeB_mk, M_codeC_mk, M_codeName_mk, M_codePlace_mk, M_codeTo_mk, M_labelName_mk, M_labelAt_mk, M_data_mk, E, upd_upd]
      · simp only [M_cd_mk, M_number_mk, M_codeSort_mk, M_codeA_mk, M_codeB_mk, M_codeC_mk, M_codeName_mk, M_codePlace_mk, M_codeTo_mk, M_labelName_mk, M_labelAt_mk, M_data_mk, E, upd_upd]
      · simp only [M_cd_mk, M_number_mk, M_codeSort_mk, M_codeA_mk, M_codeB_mk, M_codeC_mk, M_codeName_mk, M_codePlace_mk, M_codeTo_mk, M_labelName_mk, M_labelAt_mk, M_data_mk, E]
      · simp only [M_cd_mk, M_number_mk, M_codeSort_mk, M_codeA_mk, M_codeB_mk, M_codeC_mk, M_codeName_mk, M_codePlace_mk, M_codeTo_mk, M_labelName_mk, M_labelAt_mk, M_data_mk, E]
      · simp only [M_cd_mk, M_number_mk, M_codeSort_mk, M_codeA_mk, M_codeB_mk, M_codeC_mk, M_codeName_mk, M_codePlace_mk, M_codeTo_mk, M_labelName_mk, M_labelAt_mk, M_data_mk, E]
      · simp only [M_cd_mk, M_number_mk, M_codeSort_mk, M_codeA_mk, M_codeB_mk, M_codeC_mk, M_codeName_mk, M_codePlace_mk, M_codeTo_mk, M_labelName_mk, M_labelAt_mk, M_data_mk, E]
      · simp only [M_cd_mk, M_number_mk, M_codeSort_mk, M_codeA_mk, M_codeB_mk, M_codeC_mk, M_codeName_mk, M_codePlace_mk, M_codeTo_mk, M_labelName_mk, M_labelAt_mk, M_data_mk, E]; exact ⟨trivial, trivial⟩
    · exact Or.inr bdz1
set_option maxHeartbeats 4000000 in
theorem IL_18 {T : Nat → Nat} {n : Nat} {rd0 : T_Rd} {m1 m : T_M} {pl1 q1 sz : Nat} (hA : AH T n rd0 m1 pl1 q1) (hwd : WD rd0) (hsd : SD rd0) (hp0 : ∀ j, j < 3 → Rd_parts rd0 j = NN 0) (pr : T_Pg) (hps : Pg_size pr = NN sz) (hsz : sz < 40) (h8 : M_number (M_cd m) 18 = NN sz) (eg : f_M_goOn m = some m1) (hc : M_cd m1 = M_cd m) : IR T n rd0 m1 m pr 18 17 11 sz pl1 := by
  have hf1 := AH_M0 hA
  have eR := RC_17 h8 hsz eg hf1 hc
  have h0 : AH T n rd0 (sC m1 (c0 (M_cd m1) (40 + sz) (NN 17))) pl1 q1 := hA
  have hcb : M_cd (sC m1 (c0 (M_cd m1) (40 + sz) (NN 17))) = c0 (M_cd m) (40 + sz) (NN 17) := by rw [hc]; rfl
  rcases JA h0 pr (40 + sz) (w := 18) (k := 0) (s := 114) (hi := 7) (by omega) (by omega) ((congrFun ((FR1_refl rd0)).2.2.2.1 _).trans (hsd 54 (by omega))) (Or.inr (Or.inr (Or.inr (Or.inr (Or.inr (Or.inl ⟨rfl, rfl, rfl⟩)))))) with ⟨rz0, sz0, Vz0, plz0, qz0, vz0, kz0, oz0, ahz0, lez0, frz0, fmz0, pez0, waz0, tdz0, cdz0, hdz0⟩ | ⟨rz0, sz0, kz0, oz0, bdz0, frz0, fmz0, cdz0, hdz0⟩
  · skip
    rcases JB ahz0 pr (40 + sz) (w := 18) (k := 1) (s := 102) (hi := 3) (by omega) (by omega) ((congrFun ((FR1_trans (FR1_refl rd0) frz0)).2.2.2.1 _).trans (hsd 55 (by omega))) (Or.inr (Or.inr (Or.inr (Or.inr (Or.inr (Or.inr (Or.inl ⟨rfl, rfl, rfl⟩))))))) with ⟨rz1, sz1, Vz1, plz1, qz1, vz1, kz1, oz1, ahz1, lez1, frz1, fmz1, pez1, waz1, tdz1, cdz1, hdz1⟩ | ⟨rz1, sz1, kz1, oz1, bdz1, frz1, fmz1, cdz1, hdz1⟩
    · skip
      have kz2 := cst_skip (pr := pr) (w := 18) (k := 2) (v := rz1) (by omega) (by omega) ((congrFun ((FR1_trans (FR1_trans (FR1_refl rd0) frz0) frz1)).2.2.2.1 _).trans (hsd 56 (by omega)))
      have E : M_cd sz1 = cB (cA (c0 (M_cd m) (40 + sz) (NN 17)) (40 + sz) (NN Vz0)) (40 + sz) (NN Vz1) := by rw [cdz1, cdz0, hcb]
      have E8 : M_number (M_cd sz1) 18 = NN sz := by rw [E]; exact h8
      have e9 := fin8_eq E8
      refine ⟨rz1, F9 sz1 sz, (NN Vz0), (NN Vz1), (NN 0), fun K => ?_, ?_, (FR1_trans (FR1_trans (FR1_refl rd0) frz0) frz1), (FM1_trans (FM1_trans (FM1_refl m1) fmz0) fmz1), (hdz1.trans (hdz0.trans rfl)), ?_, ?_⟩
      · rw [kz0, bd_some, kz1, bd_some, kz2, bd_some]
      · rw [eR, oz0, bd_some, oz1, bd_some]
        exact e9
      · refine ⟨?_, fun j => ?_, fun j => ?_, fun j => ?_, fun j => ?_, ?_, ?_, ?_, ?_, fun j hj => ?_⟩
        · simp only [M_cd_mk, M_number_mk, M_codeSort_mk, M_codeA_mk, M_codeB_mk, M_codeC_mk, M_codeName_mk, M_codePlace_mk, M_codeTo_mk, M_labelName_mk, M_labelAt_mk, M_data_mk, E]
        · simp only [M_cd_mk, M_number_mk, M_codeSort_mk, M_codeA_mk, M_codeB_mk, M_codeC_mk, M_codeName_mk, M_codePlace_mk, M_codeTo_mk, M_labelName_mk, M_labelAt_mk, M_data_mk, E, upd_upd]
        · simp only [M_cd_mk, M_number_mk, M_codeSort_mk, M_codeA_mk, M_codeB_mk, M_codeC_mk, M_codeName_mk, M_codePlace_mk, M_codeTo_mk, M_labelName_mk, M_labelAt_mk, M_data_mk, E, upd_upd]
        · simp only [M_cd_mk, M_number_mk, M_codeSort_mk, M_codeA_mk, M_codeB_mk, M_codeC_mk, M_codeName_mk, M_codePlace_mk, M_codeTo_mk, M_labelName_mk, M_labelAt_mk, M_data_mk, E, upd_upd]
        · simp only [M_cd_mk, M_number_mk, M_codeSort_mk, M_codeA_mk, M_codeB_mk, M_codeC_mk, M_codeName_mk, M_codePlace_mk, M_codeTo_mk, M_labelName_mk, M_labelAt_mk, M_data_mk, E, upd_upd]
        · simp only [M_cd_mk, M_number_mk, M_codeSort_mk, M_codeA_mk, M_codeB_mk, M_codeC_mk, M_codeName_mk, M_codePlace_mk, M_codeTo_mk, M_labelName_mk, M_labelAt_mk, M_data_mk, E]
        · simp only [M_cd_mk, M_number_mk, M_codeSort_mk, M_codeA_mk, M_codeB_mk, M_codeC_mk, M_codeName_mk, M_codePlace_mk, M_codeTo_mk, M_labelName_mk, M_labelAt_mk, M_data_mk, E]
        · simp only [M_cd_mk, M_number_mk, M_codeSort_mk, M_codeA_mk, M_codeB_mk, M_codeC_mk, M_codeName_mk, M_codePlace_mk, M_codeTo_mk, M_labelName_mk, M_labelAt_mk, M_data_mk, E]
        · simp only [M_cd_mk, M_number_mk, M_codeSort_mk, M_codeA_mk, M_codeB_mk, M_codeC_mk, M_codeName_mk, M_codePlace_mk, M_codeTo_mk, M_labelName_mk, M_labelAt_mk, M_data_mk, E]
        · simp only [M_cd_mk, M_number_mk, M_codeSort_mk, M_codeA_mk, M_codeB_mk, M_codeC_mk, M_codeName_mk, M_codePlace_mk, M_codeTo_mk, M_labelName_mk, M_labelAt_mk, M_data_mk, E]; exact ⟨trivial, trivial⟩
      · refine Or.inl ⟨plz1, qz1, ahz1, (Nat.le_trans (Nat.le_trans (Nat.le_refl pl1) lez0) lez1), (tdz1.trans (tdz0.trans rfl)), ⟨Vz0, Vz1, 0, ?_, rfl, rfl, ?_, ?_, ?_, ?_⟩⟩
        · refine ⟨by omega, by omega, by omega, by omega, ?_, ?_, ?_, ?_, ?_, ?_, ?_⟩ <;> omega
        · rw [pez1, upd_ne (by omega)]; rw [pez0]; exact upd_at rfl
        · rw [pez1]; exact upd_at rfl
        · intro _
          refine ⟨rfl, ?_, (waz1.trans waz0)⟩
          rw [pez1, upd_ne (by omega)]; rw [pez0, upd_ne (by omega)]; exact hp0 2 (by omega)
        · intro hx; omega
    · skip
      have kz2 := cst_skip (pr := pr) (w := 18) (k := 2) (v := rz1) (by omega) (by omega) ((congrFun ((FR1_trans (FR1_trans (FR1_refl rd0) frz0) frz1)).2.2.2.1 _).trans (hsd 56 (by omega)))
      have E : M_cd sz1 = cB (cA (c0 (M_cd m) (40 + sz) (NN 17)) (40 + sz) (NN Vz0)) (40 + sz) (NN 0) := by rw [cdz1, cdz0, hcb]
      have E8 : M_number (M_cd sz1) 18 = NN sz := by rw [E]; exact h8
      have e9 := fin8_eq E8
      refine ⟨rz1, F9 sz1 sz, (NN Vz0), (NN 0), (NN 0), fun K => ?_, ?_, (FR1_trans (FR1_trans (FR1_refl rd0) frz0) frz1), (FM1_trans (FM1_trans (FM1_refl m1) fmz0) fmz1), (hdz1.trans (hdz0.trans rfl)), ?_, ?_⟩
      · rw [kz0, bd_some, kz1, bd_some, kz2, bd_some]
      · rw [eR, oz0, bd_some, oz1, bd_some]
        exact e9
      · refine ⟨?_, fun j => ?_, fun j => ?_, fun j => ?_, fun j => ?_, ?_, ?_, ?_, ?_, fun j hj => ?_⟩
        · simp only [M_cd_mk, M_number_mk, M_codeSort_mk, M_codeA_mk, M_codeB_mk, M_codeC_mk, M_codeName_mk, M_codePlace_mk, M_codeTo_mk, M_labelName_mk, M_labelAt_mk, M_data_mk, E]
        · simp only [M_cd_mk, M_number_mk, M_codeSort_mk, M_codeA_mk, M_codeB_mk, M_codeC_mk, M_codeName_mk, M_codePlace_mk, M_codeTo_mk, M_labelName_mk, M_labelAt_mk, M_data_mk, E, upd_upd]
        · simp only [M_cd_mk, M_number_mk, M_codeSort_mk, M_codeA_mk, M_codeB_mk, M_codeC_mk, M_codeName_mk, M_codePlace_mk, M_codeTo_mk, M_labelName_mk, M_labelAt_mk, M_data_mk, E, upd_upd]
        · simp only [M_cd_mk, M_number_mk, M_codeSort_mk, M_codeA_mk, M_codeB_mk, M_codeC_mk, M_codeName_mk, M_codePlace_mk, M_codeTo_mk, M_labelName_mk, M_labelAt_mk, M_data_mk, E, upd_upd]
        · simp only [M_cd_mk, M_number_mk, M_codeSort_mk, M_codeA_mk, M_codeB_mk, M_codeC_mk, M_codeName_mk, M_codePlace_mk, M_codeTo_mk, M_labelName_mk, M_labelAt_mk, M_data_mk, E, upd_upd]
        · simp only [M_cd_mk, M_number_mk, M_codeSort_mk, M_codeA_mk, M_codeB_mk, M_codeC_mk, M_codeName_mk, M_codePlace_mk, M_codeTo_mk, M_labelName_mk, M_labelAt_mk, M_data_mk, E]
        · simp only [M_cd_mk, M_number_mk, M_codeSort_mk, M_codeA_mk, M_codeB_mk, M_codeC_mk, M_codeName_mk, M_codePlace_mk, M_codeTo_mk, M_labelName_mk, M_labelAt_mk, M_data_mk, E]
        · simp only [M_cd_mk, M_number_mk, M_codeSort_mk, M_codeA_mk, M_codeB_mk, M_codeC_mk, M_codeName_mk, M_codePlace_mk, M_codeTo_mk, M_labelName_mk, M_labelAt_mk, M_data_mk, E]
        · simp only [M_cd_mk, M_number_mk, M_codeSort_mk, M_codeA_mk, M_codeB_mk, M_codeC_mk, M_codeName_mk, M_codePlace_mk, M_codeTo_mk, M_labelName_mk, M_labelAt_mk, M_data_mk, E]
        · simp only [M_cd_mk, M_number_mk, M_codeSort_mk, M_codeA_mk, M_codeB_mk, M_codeC_mk, M_codeName_mk, M_codePlace_mk, M_codeTo_mk, M_labelName_mk, M_labelAt_mk, M_data_mk, E]; exact ⟨trivial, trivial⟩
      · exact Or.inr bdz1
  · skip
    obtain ⟨sz1, kz1, oz1, bdz1, fmz1, cdz1, hdz1⟩ := BB bdz0 pr (NN 18) (NN 1) (40 + sz) 3
    have kz2 := cst_skip (pr := pr) (w := 18) (k := 2) (v := rz0) (by omega) (by omega) ((congrFun ((FR1_trans (FR1_refl rd0) frz0)).2.2.2.1 _).trans (hsd 56 (by omega)))
    have E : M_cd sz1 = cB (cA (c0 (M_cd m) (40 + sz) (NN 17)) (40 + sz) (NN 0)) (40 + sz) (NN 0) := by rw [cdz1, cdz0, hcb]
    have E8 : M_number (M_cd sz1) 18 = NN sz := by rw [E]; exact h8
    have e9 := fin8_eq E8
    refine ⟨rz0, F9 sz1 sz, (NN 0), (NN 0), (NN 0), fun K => ?_, ?_, (FR1_trans (FR1_refl rd0) frz0), (FM1_trans (FM1_trans (FM1_refl m1) fmz0) fmz1), (hdz1.trans (hdz0.trans rfl)), ?_, ?_⟩
    · rw [kz0, bd_some, kz1, bd_some, kz2, bd_some]
    · rw [eR, oz0, bd_some, oz1, bd_some]
      exact e9
    · refine ⟨?_, fun j => ?_, fun j => ?_, fun j => ?_, fun j => ?_, ?_, ?_, ?_, ?_, fun j hj => ?_⟩
      · simp only [M_cd_mk, M_number_mk, M_codeSort_mk, M_codeA_mk, M_codeB_mk, M_codeC_mk, M_codeName_mk, M_codePlace_mk, M_codeTo_mk, M_labelName_mk, M_labelAt_mk, M_data_mk, E]
      · simp only [M_cd_mk, M_number_mk, M_codeSort_mk, M_codeA_mk, M_codeB_mk, M_codeC_mk, M_codeName_mk, M_codePlace_mk, M_codeTo_mk, M_labelName_mk, M_labelAt_mk, M_data_mk, E, upd_upd]
      · simp only [M_cd_mk, M_number_mk, M_codeSort_mk, M_codeA_mk, M_codeB_mk, M_codeC_mk, M_codeName_mk, M_codePlace_mk, M_codeTo_mk, M_labelName_mk, M_labelAt_mk, M_data_mk, E, upd_upd]
      · simp only [M_cd_mk, M_number_mk, M_codeSort_mk, M_codeA_mk, M_codeB_mk, M_codeC_mk, M_codeName_mk, M_codePlace_mk, M_codeTo_mk, M_labelName_mk, M_labelAt_mk, M_data_mk, E, upd_upd]
      · simp only [M_cd_mk, M_number_mk, M_codeSort_mk, M_codeA_mk, M_codeB_mk, M_codeC_mk, M_codeName_mk, M_codePlace_mk, M_codeTo_mk, M_labelName_mk, M_labelAt_mk, M_data_mk, E, upd_upd]
      · simp only [M_cd_mk, M_number_mk, M_codeSort_mk, M_codeA_mk, M_codeB_mk, M_codeC_mk, M_codeName_mk, M_codePlace_mk, M_codeTo_mk, M_labelName_mk, M_labelAt_mk, M_data_mk, E]
      · simp only [M_cd_mk, M_number_mk, M_codeSort_mk, M_codeA_mk, M_codeB_mk, M_codeC_mk, M_codeName_mk, M_codePlace_mk, M_codeTo_mk, M_labelName_mk, M_labelAt_mk, M_data_mk, E]
      · simp only [M_cd_mk, M_number_mk, M_codeSort_mk, M_codeA_mk, M_codeB_mk, M_codeC_mk, M_codeName_mk, M_codePlace_mk, M_codeTo_mk, M_labelName_mk, M_labelAt_mk, M_data_mk, E]
      · simp only [M_cd_mk, M_number_mk, M_codeSort_mk, M_codeA_mk, M_codeB_mk, M_codeC_mk, M_codeName_mk, M_codePlace_mk, M_codeTo_mk, M_labelName_mk, M_labelAt_mk, M_data_mk, E]
      · simp only [M_cd_mk, M_number_mk, M_codeSort_mk, M_codeA_mk, M_codeB_mk, M_codeC_mk, M_codeName_mk, M_codePlace_mk, M_codeTo_mk, M_labelName_mk, M_labelAt_mk, M_data_mk, E]; exact ⟨trivial, trivial⟩
    · exact Or.inr bdz1
set_option maxHeartbeats 4000000 in
theorem IL_19 {T : Nat → Nat} {n : Nat} {rd0 : T_Rd} {m1 m : T_M} {pl1 q1 sz : Nat} (hA : AH T n rd0 m1 pl1 q1) (hwd : WD rd0) (hsd : SD rd0) (hp0 : ∀ j, j < 3 → Rd_parts rd0 j = NN 0) (pr : T_Pg) (hps : Pg_size pr = NN sz) (hsz : sz < 40) (h8 : M_number (M_cd m) 18 = NN sz) (eg : f_M_goOn m = some m1) (hc : M_cd m1 = M_cd m) : IR T n rd0 m1 m pr 19 18 12 sz pl1 := by
  have hf1 := AH_M0 hA
  have eR := RC_18 h8 hsz eg hf1 hc
  have h0 : AH T n rd0 (sC m1 (c0 (M_cd m1) (40 + sz) (NN 18))) pl1 q1 := hA
  have hcb : M_cd (sC m1 (c0 (M_cd m1) (40 + sz) (NN 18))) = c0 (M_cd m) (40 + sz) (NN 18) := by rw [hc]; rfl
  rcases JA h0 pr (40 + sz) (w := 19) (k := 0) (s := 102) (hi := 3) (by omega) (by omega) ((congrFun ((FR1_refl rd0)).2.2.2.1 _).trans (hsd 57 (by omega))) (Or.inr (Or.inr (Or.inr (Or.inr (Or.inr (Or.inr (Or.inl ⟨rfl, rfl, rfl⟩))))))) with ⟨rz0, sz0, Vz0, plz0, qz0, vz0, kz0, oz0, ahz0, lez0, frz0, fmz0, pez0, waz0, tdz0, cdz0, hdz0⟩ | ⟨rz0, sz0, kz0, oz0, bdz0, frz0, fmz0, cdz0, hdz0⟩
  · skip
    rcases JB ahz0 pr (40 + sz) (w := 19) (k := 1) (s := 102) (hi := 3) (by omega) (by omega) ((congrFun ((FR1_trans (FR1_refl rd0) frz0)).2.2.2.1 _).trans (hsd 58 (by omega))) (Or.inr (Or.inr (Or.inr (Or.inr (Or.inr (Or.inr (Or.inl ⟨rfl, rfl, rfl⟩))))))) with ⟨rz1, sz1, Vz1, plz1, qz1, vz1, kz1, oz1, ahz1, lez1, frz1, fmz1, pez1, waz1, tdz1, cdz1, hdz1⟩ | ⟨rz1, sz1, kz1, oz1, bdz1, frz1, fmz1, cdz1, hdz1⟩
    · skip
      rcases JC ahz1 pr (40 + sz) (w := 19) (k := 2) (s := 102) (hi := 3) (by omega) (by omega) ((congrFun ((FR1_trans (FR1_trans (FR1_refl rd0) frz0) frz1)).2.2.2.1 _).trans (hsd 59 (by omega))) (Or.inr (Or.inr (Or.inr (Or.inr (Or.inr (Or.inr (Or.inl ⟨rfl, rfl, rfl⟩))))))) with ⟨rz2, sz2, Vz2, plz2, qz2, vz2, kz2, oz2, ahz2, lez2, frz2, fmz2, pez2, waz2, tdz2, cdz2, hdz2⟩ | ⟨rz2, sz2, kz2, oz2, bdz2, frz2, fmz2, cdz2, hdz2⟩
      · skip
        have E : M_cd sz2 = cC (cB (cA (c0 (M_cd m) (40 + sz) (NN 18)) (40 + sz) (NN Vz0)) (40 + sz) (NN Vz1)) (40 + sz) (NN Vz2) := by rw [cdz2, cdz1, cdz0, hcb]
        have E8 : M_number (M_cd sz2) 18 = NN sz := by rw [E]; exact h8
        have e9 := fin8_eq E8
        refine ⟨rz2, F9 sz2 sz, (NN Vz0), (NN Vz1), (NN Vz2), fun K => ?_, ?_, (FR1_trans (FR1_trans (FR1_trans (FR1_refl rd0) frz0) frz1) frz2), (FM1_trans (FM1_trans (FM1_trans (FM1_refl m1) fmz0) fmz1) fmz2), (hdz2.trans (hdz1.trans (hdz0.trans rfl))), ?_, ?_⟩
        · rw [kz0, bd_some, kz1, bd_some, kz2, bd_some]
        · rw [eR, oz0, bd_some, oz1, bd_some, oz2, bd_some]
          exact e9
        · refine ⟨?_, fun j => ?_, fun j => ?_, fun j => ?_, fun j => ?_, ?_, ?_, ?_, ?_, fun j hj => ?_⟩
          · simp only [M_cd_mk, M_number_mk, M_codeSort_mk, M_codeA_mk, M_codeB_mk, M_codeC_mk, M_codeName_mk, M_codePlace_mk, M_codeTo_mk, M_labelName_mk, M_labelAt_mk, M_data_mk, E]
          · simp only [M_cd_mk, M_number_mk, M_codeSort_mk, M_codeA_mk, M_codeB_mk, M_codeC_mk, M_codeName_mk, M_codePlace_mk, M_codeTo_mk, M_labelName_mk, M_labelAt_mk, M_data_mk, E, upd_upd]
          · simp only [M_cd_mk, M_number_mk, M_codeSort_mk, M_codeA_mk, M_codeB_mk, M_codeC_mk, M_codeName_mk, M_codePlace_mk, M_codeTo_mk, M_labelName_mk, M_labelAt_mk, M_data_mk, E, upd_upd]
          · simp only [M_cd_mk, M_number_mk, M_codeSort_mk, M_codeA_mk, M_codeB_mk, M_codeC_mk, M_codeName_mk, M_codePlace_mk, M_codeTo_mk, M_labelName_mk, M_labelAt_mk, M_data_mk, E, upd_upd]
          · simp only [M_cd_mk, M_number_mk, M_codeSort_mk, M_codeA_mk, M_codeB_mk, M_codeC_mk, M_codeName_mk, M_codePlace_mk, M_codeTo_mk, M_labelName_mk, M_labelAt_mk, M_data_mk, E, upd_upd]
          · simp only [M_cd_mk, M_number_mk, M_codeSort_mk, M_codeA_mk, M_codeB_mk, M_codeC_mk, M_codeName_mk, M_codePlace_mk, M_codeTo_mk, M_labelName_mk, M_labelAt_mk, M_data_mk, E]
          · simp only [M_cd_mk, M_number_mk, M_codeSort_mk, M_codeA_mk, M_codeB_mk, M_codeC_mk, M_codeName_mk, M_codePlace_mk, M_codeTo_mk, M_labelName_mk, M_labelAt_mk, M_data_mk, E]
          · simp only [M_cd_mk, M_number_mk, M_codeSort_mk, M_codeA_mk, M_codeB_mk, M_codeC_mk, M_codeName_mk, M_codePlace_mk, M_codeTo_mk, M_labelName_mk, M_labelAt_mk, M_data_mk, E]
          · simp only [M_cd_mk, M_number_mk, M_codeSort_mk, M_codeA_mk, M_codeB_mk, M_codeC_mk, M_codeName_mk, M_codePlace_mk, M_codeTo_mk, M_labelName_mk, M_labelAt_mk, M_data_mk, E]
          · simp only [M_cd_mk, M_number_mk, M_codeSort_mk, M_codeA_mk, M_codeB_mk, M_codeC_mk, M_codeName_mk, M_codePlace_mk, M_codeTo_mk, M_labelName_mk, M_labelAt_mk, M_data_mk, E]; exact ⟨trivial, trivial⟩
        · refine Or.inl ⟨plz2, qz2, ahz2, (Nat.le_trans (Nat.le_trans (Nat.le_trans (Nat.le_refl pl1) lez0) lez1) lez2), (tdz2.trans (tdz1.trans (tdz0.trans rfl))), ⟨Vz0, Vz1, Vz2, ?_, rfl, rfl, ?_, ?_, ?_, ?_⟩⟩
          · refine ⟨by omega, by omega, by omega, by omega, ?_, ?_, ?_, ?_, ?_, ?_, ?_⟩ <;> omega
          · rw [pez2, upd_ne (by omega)]; rw [pez1, upd_ne (by omega)]; rw [pez0]; exact upd_at rfl
          · rw [pez2, upd_ne (by omega)]; rw [pez1]; exact upd_at rfl
          · intro _
            refine ⟨rfl, ?_, (waz2.trans (waz1.trans waz0))⟩
            rw [pez2]; exact upd_at rfl
          · intro hx; omega
      · skip
        have E : M_cd sz2 = cC (cB (cA (c0 (M_cd m) (40 + sz) (NN 18)) (40 + sz) (NN Vz0)) (40 + sz) (NN Vz1)) (40 + sz) (NN 0) := by rw [cdz2, cdz1, cdz0, hcb]
        have E8 : M_number (M_cd sz2) 18 = NN sz := by rw [E]; exact h8
        have e9 := fin8_eq E8
        refine ⟨rz2, F9 sz2 sz, (NN Vz0), (NN Vz1), (NN 0), fun K => ?_, ?_, (FR1_trans (FR1_trans (FR1_trans (FR1_refl rd0) frz0) frz1) frz2), (FM1_trans (FM1_trans (FM1_trans (FM1_refl m1) fmz0) fmz1) fmz2), (hdz2.trans (hdz1.trans (hdz0.trans rfl))), ?_, ?_⟩
        · rw [kz0, bd_some, kz1, bd_some, kz2, bd_some]
        · rw [eR, oz0, bd_some, oz1, bd_some, oz2, bd_some]
          exact e9
        · refine ⟨?_, fun j => ?_, fun j => ?_, fun j => ?_, fun j => ?_, ?_, ?_, ?_, ?_, fun j hj => ?_⟩
          · simp only [M_cd_mk, M_number_mk, M_codeSort_mk, M_codeA_mk, M_codeB_mk, M_codeC_mk, M_codeName_mk, M_codePlace_mk, M_codeTo_mk, M_labelName_mk, M_labelAt_mk, M_data_mk, E]
          · simp only [M_cd_mk, M_number_mk, M_codeSort_mk, M_codeA_mk, M_codeB_mk, M_codeC_mk, M_codeName_mk, M_codePlace_mk, M_codeTo_mk, M_labelName_mk, M_labelAt_mk, M_data_mk, E, upd_upd]
          · simp only [M_cd_mk, M_number_mk, M_codeSort_mk, M_codeA_mk, M_codeB_mk, M_codeC_mk, M_codeName_mk, M_codePlace_mk, M_codeTo_mk, M_labelName_mk, M_labelAt_mk, M_data_mk, E, upd_upd]
          · simp only [M_cd_mk, M_number_mk, M_codeSort_mk, M_codeA_mk, M_codeB_mk, M_codeC_mk, M_codeName_mk, M_codePlace_mk, M_codeTo_mk, M_labelName_mk, M_labelAt_mk, M_data_mk, E, upd_upd]
          · simp only [M_cd_mk, M_number_mk, M_codeSort_mk, M_codeA_mk, M_codeB_mk, M_codeC_mk, M_codeName_mk, M_codePlace_mk, M_codeTo_mk, M_labelName_mk, M_labelAt_mk, M_data_mk, E, upd_upd]
          · simp only [M_cd_mk, M_number_mk, M_codeSort_mk, M_codeA_mk, M_codeB_mk, M_codeC_mk, M_codeName_mk, M_codePlace_mk, M_codeTo_mk, M_labelName_mk, M_labelAt_mk, M_data_mk, E]
          · simp only [M_cd_mk, M_number_mk, M_codeSort_mk, M_codeA_mk, M_codeB_mk, M_codeC_mk, M_codeName_mk, M_codePlace_mk, M_codeTo_mk, M_labelName_mk, M_labelAt_mk, M_data_mk, E]
          · simp only [M_cd_mk, M_number_mk, M_codeSort_mk, M_codeA_mk, M_codeB_mk, M_codeC_mk, M_codeName_mk, M_codePlace_mk, M_codeTo_mk, M_labelName_mk, M_labelAt_mk, M_data_mk, E]
          · simp only [M_cd_mk, M_number_mk, M_codeSort_mk, M_codeA_mk, M_codeB_mk, M_codeC_mk, M_codeName_mk, M_codePlace_mk, M_codeTo_mk, M_labelName_mk, M_labelAt_mk, M_data_mk, E]
          · simp only [M_cd_mk, M_number_mk, M_codeSort_mk, M_codeA_mk, M_codeB_mk, M_codeC_mk, M_codeName_mk, M_codePlace_mk, M_codeTo_mk, M_labelName_mk, M_labelAt_mk, M_data_mk, E]; exact ⟨trivial, trivial⟩
        · exact Or.inr bdz2
    · skip
      obtain ⟨sz2, kz2, oz2, bdz2, fmz2, cdz2, hdz2⟩ := BC bdz1 pr (NN 19) (NN 2) (40 + sz) 3
      have E : M_cd sz2 = cC (cB (cA (c0 (M_cd m) (40 + sz) (NN 18)) (40 + sz) (NN Vz0)) (40 + sz) (NN 0)) (40 + sz) (NN 0) := by rw [cdz2, cdz1, cdz0, hcb]
      have E8 : M_number (M_cd sz2) 18 = NN sz := by rw [E]; exact h8
      have e9 := fin8_eq E8
      refine ⟨rz1, F9 sz2 sz, (NN Vz0), (NN 0), (NN 0), fun K => ?_, ?_, (FR1_trans (FR1_trans (FR1_refl rd0) frz0) frz1), (FM1_trans (FM1_trans (FM1_trans (FM1_refl m1) fmz0) fmz1) fmz2), (hdz2.trans (hdz1.trans (hdz0.trans rfl))), ?_, ?_⟩
      · rw [kz0, bd_some, kz1, bd_some, kz2, bd_some]
      · rw [eR, oz0, bd_some, oz1, bd_some, oz2, bd_some]
        exact e9
      · refine ⟨?_, fun j => ?_, fun j => ?_, fun j => ?_, fun j => ?_, ?_, ?_, ?_, ?_, fun j hj => ?_⟩
        · simp only [M_cd_mk, M_number_mk, M_codeSort_mk, M_codeA_mk, M_codeB_mk, M_codeC_mk, M_codeName_mk, M_codePlace_mk, M_codeTo_mk, M_labelName_mk, M_labelAt_mk, M_data_mk, E]
        · simp only [M_cd_mk, M_number_mk, M_codeSort_mk, M_codeA_mk, M_codeB_mk, M_codeC_mk, M_codeName_mk, M_codePlace_mk, M_codeTo_mk, M_labelName_mk, M_labelAt_mk, M_data_mk, E, upd_upd]
        · simp only [M_cd_mk, M_number_mk, M_codeSort_mk, M_codeA_mk, M_codeB_mk, M_codeC_mk, M_codeName_mk, M_codePlace_mk, M_codeTo_mk, M_labelName_mk, M_labelAt_mk, M_data_mk, E, upd_upd]
        · simp only [M_cd_mk, M_number_mk, M_codeSort_mk, M_codeA_mk, M_codeB_mk, M_codeC_mk, M_codeName_mk, M_codePlace_mk, M_codeTo_mk, M_labelName_mk, M_labelAt_mk, M_data_mk, E, upd_upd]
        · simp only [M_cd_mk, M_number_mk, M_codeSort_mk, M_codeA_mk, M_codeB_mk, M_codeC_mk, M_codeName_mk, M_codePlace_mk, M_codeTo_mk, M_labelName_mk, M_labelAt_mk, M_data_mk, E, upd_upd]
        · simp only [M_cd_mk, M_number_mk, M_codeSort_mk, M_codeA_mk, M_codeB_mk, M_codeC_mk, M_codeName_mk, M_codePlace_mk, M_codeTo_mk, M_labelName_mk, M_labelAt_mk, M_data_mk, E]
        · simp only [M_cd_mk, M_number_mk, M_codeSort_mk, M_codeA_mk, M_codeB_mk, M_codeC_mk, M_codeName_mk, M_codePlace_mk, M_codeTo_mk, M_labelName_mk, M_labelAt_mk, M_data_mk, E]
        · simp only [M_cd_mk, M_number_mk, M_codeSort_mk, M_codeA_mk, M_codeB_mk, M_codeC_mk, M_codeName_mk, M_codePlace_mk, M_codeTo_mk, M_labelName_mk, M_labelAt_mk, M_data_mk, E]
        · simp only [M_cd_mk, M_number_mk, M_codeSort_mk, M_codeA_mk, M_codeB_mk, M_codeC_mk, M_codeName_mk, M_codePlace_mk, M_codeTo_mk, M_labelName_mk, M_labelAt_mk, M_data_mk, E]
        · simp only [M_cd_mk, M_number_mk, M_codeSort_mk, M_codeA_mk, M_codeB_mk, M_codeC_mk, M_codeName_mk, M_codePlace_mk, M_codeTo_mk, M_labelName_mk, M_labelAt_mk, M_data_mk, E]; exact ⟨trivial, trivial⟩
      · exact Or.inr bdz2
  · skip
    obtain ⟨sz1, kz1, oz1, bdz1, fmz1, cdz1, hdz1⟩ := BB bdz0 pr (NN 19) (NN 1) (40 + sz) 3
    obtain ⟨sz2, kz2, oz2, bdz2, fmz2, cdz2, hdz2⟩ := BC bdz1 pr (NN 19) (NN 2) (40 + sz) 3
    have E : M_cd sz2 = cC (cB (cA (c0 (M_cd m) (40 + sz) (NN 18)) (40 + sz) (NN 0)) (40 + sz) (NN 0)) (40 + sz) (NN 0) := by rw [cdz2, cdz1, cdz0, hcb]
    have E8 : M_number (M_cd sz2) 18 = NN sz := by rw [E]; exact h8
    have e9 := fin8_eq E8
    refine ⟨rz0, F9 sz2 sz, (NN 0), (NN 0), (NN 0), fun K => ?_, ?_, (FR1_trans (FR1_refl rd0) frz0), (FM1_trans (FM1_trans (FM1_trans (FM1_refl m1) fmz0) fmz1) fmz2), (hdz2.trans (hdz1.trans (hdz0.trans rfl))), ?_, ?_⟩
    · rw [kz0, bd_some, kz1, bd_some, kz2, bd_some]
    · rw [eR, oz0, bd_some, oz1, bd_some, oz2, bd_some]
      exact e9
    · refine ⟨?_, fun j => ?_, fun j => ?_, fun j => ?_, fun j => ?_, ?_, ?_, ?_, ?_, fun j hj => ?_⟩
      · simp only [M_cd_mk, M_number_mk, M_codeSort_mk, M_codeA_mk, M_codeB_mk, M_codeC_mk, M_codeName_mk, M_codePlace_mk, M_codeTo_mk, M_labelName_mk, M_labelAt_mk, M_data_mk, E]
      · simp only [M_cd_mk, M_number_mk, M_codeSort_mk, M_codeA_mk, M_codeB_mk, M_codeC_mk, M_codeName_mk, M_codePlace_mk, M_codeTo_mk, M_labelName_mk, M_labelAt_mk, M_data_mk, E, upd_upd]
      · simp only [M_cd_mk, M_number_mk, M_codeSort_mk, M_codeA_mk, M_codeB_mk, M_codeC_mk, M_codeName_mk, M_codePlace_mk, M_codeTo_mk, M_labelName_mk, M_labelAt_mk, M_data_mk, E, upd_upd]
      · simp only [M_cd_mk, M_number_mk, M_codeSort_mk, M_codeA_mk, M_codeB_mk, M_codeC_mk, M_codeName_mk, M_codePlace_mk, M_codeTo_mk, M_labelName_mk, M_labelAt_mk, M_data_mk, E, upd_upd]
      · simp only [M_cd_mk, M_number_mk, M_codeSort_mk, M_codeA_mk, M_codeB_mk, M_codeC_mk, M_codeName_mk, M_codePlace_mk, M_codeTo_mk, M_labelName_mk, M_labelAt_mk, M_data_mk, E, upd_upd]
      · simp only [M_cd_mk, M_number_mk, M_codeSort_mk, M_codeA_mk, M_codeB_mk, M_codeC_mk, M_codeName_mk, M_codePlace_mk, M_codeTo_mk, M_labelName_mk, M_labelAt_mk, M_data_mk, E]
      · simp only [M_cd_mk, M_number_mk, M_codeSort_mk, M_codeA_mk, M_codeB_mk, M_codeC_mk, M_codeName_mk, M_codePlace_mk, M_codeTo_mk, M_labelName_mk, M_labelAt_mk, M_data_mk, E]
      · simp only [M_cd_mk, M_number_mk, M_codeSort_mk, M_codeA_mk, M_codeB_mk, M_codeC_mk, M_codeName_mk, M_codePlace_mk, M_codeTo_mk, M_labelName_mk, M_labelAt_mk, M_data_mk, E]
      · simp only [M_cd_mk, M_number_mk, M_codeSort_mk, M_codeA_mk, M_codeB_mk, M_codeC_mk, M_codeName_mk, M_codePlace_mk, M_codeTo_mk, M_labelName_mk, M_labelAt_mk, M_data_mk, E]
      · simp only [M_cd_mk, M_number_mk, M_codeSort_mk, M_codeA_mk, M_codeB_mk, M_codeC_mk, M_codeName_mk, M_codePlace_mk, M_codeTo_mk, M_labelName_mk, M_labelAt_mk, M_data_mk, E]; exact ⟨trivial, trivial⟩
    · exact Or.inr bdz2
set_option maxHeartbeats 4000000 in
theorem IL_20 {T : Nat → Nat} {n : Nat} {rd0 : T_Rd} {m1 m : T_M} {pl1 q1 sz : Nat} (hA : AH T n rd0 m1 pl1 q1) (hwd : WD rd0) (hsd : SD rd0) (hp0 : ∀ j, j < 3 → Rd_parts rd0 j = NN 0) (pr : T_Pg) (hps : Pg_size pr = NN sz) (hsz : sz < 40) (h8 : M_number (M_cd m) 18 = NN sz) (eg : f_M_goOn m = some m1) (hc : M_cd m1 = M_cd m) : IR T n rd0 m1 m pr 20 19 13 sz pl1 := by
  have hf1 := AH_M0 hA
  have eR := RC_19 h8 hsz eg hf1 hc
  have h0 : AH T n rd0 (sC m1 (c0 (M_cd m1) (40 + sz) (NN 19))) pl1 q1 := hA
  have hcb : M_cd (sC m1 (c0 (M_cd m1) (40 + sz) (NN 19))) = c0 (M_cd m) (40 + sz) (NN 19) := by rw [hc]; rfl
  rcases JA h0 pr (40 + sz) (w := 20) (k := 0) (s := 102) (hi := 3) (by omega) (by omega) ((congrFun ((FR1_refl rd0)).2.2.2.1 _).trans (hsd 60 (by omega))) (Or.inr (Or.inr (Or.inr (Or.inr (Or.inr (Or.inr (Or.inl ⟨rfl, rfl, rfl⟩))))))) with ⟨rz0, sz0, Vz0, plz0, qz0, vz0, kz0, oz0, ahz0, lez0, frz0, fmz0, pez0, waz0, tdz0, cdz0, hdz0⟩ | ⟨rz0, sz0, kz0, oz0, bdz0, frz0, fmz0, cdz0, hdz0⟩
  · skip
    rcases JB ahz0 pr (40 + sz) (w := 20) (k := 1) (s := 102) (hi := 3) (by omega) (by omega) ((congrFun ((FR1_trans (FR1_refl rd0) frz0)).2.2.2.1 _).trans (hsd 61 (by omega))) (Or.inr (Or.inr (Or.inr (Or.inr (Or.inr (Or.inr (Or.inl ⟨rfl, rfl, rfl⟩))))))) with ⟨rz1, sz1, Vz1, plz1, qz1, vz1, kz1, oz1, ahz1, lez1, frz1, fmz1, pez1, waz1, tdz1, cdz1, hdz1⟩ | ⟨rz1, sz1, kz1, oz1, bdz1, frz1, fmz1, cdz1, hdz1⟩
    · skip
      rcases JC ahz1 pr (40 + sz) (w := 20) (k := 2) (s := 102) (hi := 3) (by omega) (by omega) ((congrFun ((FR1_trans (FR1_trans (FR1_refl rd0) frz0) frz1)).2.2.2.1 _).trans (hsd 62 (by omega))) (Or.inr (Or.inr (Or.inr (Or.inr (Or.inr (Or.inr (Or.inl ⟨rfl, rfl, rfl⟩))))))) with ⟨rz2, sz2, Vz2, plz2, qz2, vz2, kz2, oz2, ahz2, lez2, frz2, fmz2, pez2, waz2, tdz2, cdz2, hdz2⟩ | ⟨rz2, sz2, kz2, oz2, bdz2, frz2, fmz2, cdz2, hdz2⟩
      · skip
        have E : M_cd sz2 = cC (cB (cA (c0 (M_cd m) (40 + sz) (NN 19)) (40 + sz) (NN Vz0)) (40 + sz) (NN Vz1)) (40 + sz) (NN Vz2) := by rw [cdz2, cdz1, cdz0, hcb]
        have E8 : M_number (M_cd sz2) 18 = NN sz := by rw [E]; exact h8
        have e9 := fin8_eq E8
        refine ⟨rz2, F9 sz2 sz, (NN Vz0), (NN Vz1), (NN Vz2), fun K => ?_, ?_, (FR1_trans (FR1_trans (FR1_trans (FR1_refl rd0) frz0) frz1) frz2), (FM1_trans (FM1_trans (FM1_trans (FM1_refl m1) fmz0) fmz1) fmz2), (hdz2.trans (hdz1.trans (hdz0.trans rfl))), ?_, ?_⟩
        · rw [kz0, bd_some, kz1, bd_some, kz2, bd_some]
        · rw [eR, oz0, bd_some, oz1, bd_some, oz2, bd_some]
          exact e9
        · refine ⟨?_, fun j => ?_, fun j => ?_, fun j => ?_, fun j => ?_, ?_, ?_, ?_, ?_, fun j hj => ?_⟩
          · simp only [M_cd_mk, M_number_mk, M_codeSort_mk, M_codeA_mk, M_codeB_mk, M_codeC_mk, M_codeName_mk, M_codePlace_mk, M_codeTo_mk, M_labelName_mk, M_labelAt_mk, M_data_mk, E]
          · simp only [M_cd_mk, M_number_mk, M_codeSort_mk, M_codeA_mk, M_codeB_mk, M_codeC_mk, M_codeName_mk, M_codePlace_mk, M_codeTo_mk, M_labelName_mk, M_labelAt_mk, M_data_mk, E, upd_upd]
          · simp only [M_cd_mk, M_number_mk, M_codeSort_mk, M_codeA_mk, M_codeB_mk, M_codeC_mk, M_codeName_mk, M_codePlace_mk, M_codeTo_mk, M_labelName_mk, M_labelAt_mk, M_data_mk, E, upd_upd]
          · simp only [M_cd_mk, M_number_mk, M_codeSort_mk, M_codeA_mk, M_codeB_mk, M_codeC_mk, M_codeName_mk, M_codePlace_mk, M_codeTo_mk, M_labelName_mk, M_labelAt_mk, M_data_mk, E, upd_upd]
          · simp only [M_cd_mk, M_number_mk, M_codeSort_mk, M_codeA_mk, M_codeB_mk, M_codeC_mk, M_codeName_mk, M_codePlace_mk, M_codeTo_mk, M_labelName_mk, M_labelAt_mk, M_data_mk, E, upd_upd]
          · simp only [M_cd_mk, M_number_mk, M_codeSort_mk, M_codeA_mk, M_codeB_mk, M_codeC_mk, M_codeName_mk, M_codePlace_mk, M_codeTo_mk, M_labelName_mk, M_labelAt_mk, M_data_mk, E]
          · simp only [M_cd_mk, M_number_mk, M_codeSort_mk, M_codeA_mk, M_codeB_mk, M_codeC_mk, M_codeName_mk, M_codePlace_mk, M_codeTo_mk, M_labelName_mk, M_labelAt_mk, M_data_mk, E]
          · simp only [M_cd_mk, M_number_mk, M_codeSort_mk, M_codeA_mk, M_codeB_mk, M_codeC_mk, M_codeName_mk, M_codePlace_mk, M_codeTo_mk, M_labelName_mk, M_labelAt_mk, M_data_mk, E]
          · simp only [M_cd_mk, M_number_mk, M_codeSort_mk, M_codeA_mk, M_codeB_mk, M_codeC_mk, M_codeName_mk, M_codePlace_mk, M_codeTo_mk, M_labelName_mk, M_labelAt_mk, M_data_mk, E]
          · simp only [M_cd_mk, M_number_mk, M_codeSort_mk, M_codeA_mk, M_codeB_mk, M_codeC_mk, M_codeName_mk, M_codePlace_mk, M_codeTo_mk, M_labelName_mk, M_labelAt_mk, M_data_mk, E]; exact ⟨trivial, trivial⟩
        · refine Or.inl ⟨plz2, qz2, ahz2, (Nat.le_trans (Nat.le_trans (Nat.le_trans (Nat.le_refl pl1) lez0) lez1) lez2), (tdz2.trans (tdz1.trans (tdz0.trans rfl))), ⟨Vz0, Vz1, Vz2, ?_, rfl, rfl, ?_, ?_, ?_, ?_⟩⟩
          · refine ⟨by omega, by omega, by omega, by omega, ?_, ?_, ?_, ?_, ?_, ?_, ?_⟩ <;> omega
          · rw [pez2, upd_ne (by omega)]; rw [pez1, upd_ne (by omega)]; rw [pez0]; exact upd_at rfl
          · rw [pez2, upd_ne (by omega)]; rw [pez1]; exact upd_at rfl
          · intro _
            refine ⟨rfl, ?_, (waz2.trans (waz1.trans waz0))⟩
            rw [pez2]; exact upd_at rfl
          · intro hx; omega
      · skip
        have E : M_cd sz2 = cC (cB (cA (c0 (M_cd m) (40 + sz) (NN 19)) (40 + sz) (NN Vz0)) (40 + sz) (NN Vz1)) (40 + sz) (NN 0) := by rw [cdz2, cdz1, cdz0, hcb]
        have E8 : M_number (M_cd sz2) 18 = NN sz := by rw [E]; exact h8
        have e9 := fin8_eq E8
        refine ⟨rz2, F9 sz2 sz, (NN Vz0), (NN Vz1), (NN 0), fun K => ?_, ?_, (FR1_trans (FR1_trans (FR1_trans (FR1_refl rd0) frz0) frz1) frz2), (FM1_trans (FM1_trans (FM1_trans (FM1_refl m1) fmz0) fmz1) fmz2), (hdz2.trans (hdz1.trans (hdz0.trans rfl))), ?_, ?_⟩
        · rw [kz0, bd_some, kz1, bd_some, kz2, bd_some]
        · rw [eR, oz0, bd_some, oz1, bd_some, oz2, bd_some]
          exact e9
        · refine ⟨?_, fun j => ?_, fun j => ?_, fun j => ?_, fun j => ?_, ?_, ?_, ?_, ?_, fun j hj => ?_⟩
          · simp only [M_cd_mk, M_number_mk, M_codeSort_mk, M_codeA_mk, M_codeB_mk, M_codeC_mk, M_codeName_mk, M_codePlace_mk, M_codeTo_mk, M_labelName_mk, M_labelAt_mk, M_data_mk, E]
          · simp only [M_cd_mk, M_number_mk, M_codeSort_mk, M_codeA_mk, M_codeB_mk, M_codeC_mk, M_codeName_mk, M_codePlace_mk, M_codeTo_mk, M_labelName_mk, M_labelAt_mk, M_data_mk, E, upd_upd]
          · simp only [M_cd_mk, M_number_mk, M_codeSort_mk, M_codeA_mk, M_codeB_mk, M_codeC_mk, M_codeName_mk, M_codePlace_mk, M_codeTo_mk, M_labelName_mk, M_labelAt_mk, M_data_mk, E, upd_upd]
          · simp only [M_cd_mk, M_number_mk, M_codeSort_mk, M_codeA_mk, M_codeB_mk, M_codeC_mk, M_codeName_mk, M_codePlace_mk, M_codeTo_mk, M_labelName_mk, M_labelAt_mk, M_data_mk, E, upd_upd]
          · simp only [M_cd_mk, M_number_mk, M_codeSort_mk, M_codeA_mk, M_codeB_mk, M_codeC_mk, M_codeName_mk, M_codePlace_mk, M_codeTo_mk, M_labelName_mk, M_labelAt_mk, M_data_mk, E, upd_upd]
          · simp only [M_cd_mk, M_number_mk, M_codeSort_mk, M_codeA_mk, M_codeB_mk, M_codeC_mk, M_codeName_mk, M_codePlace_mk, M_codeTo_mk, M_labelName_mk, M_labelAt_mk, M_data_mk, E]
          · simp only [M_cd_mk, M_number_mk, M_codeSort_mk, M_codeA_mk, M_codeB_mk, M_codeC_mk, M_codeName_mk, M_codePlace_mk, M_codeTo_mk, M_labelName_mk, M_labelAt_mk, M_data_mk, E]
          · simp only [M_cd_mk, M_number_mk, M_codeSort_mk, M_codeA_mk, M_codeB_mk, M_codeC_mk, M_codeName_mk, M_codePlace_mk, M_codeTo_mk, M_labelName_mk, M_labelAt_mk, M_data_mk, E]
          · simp only [M_cd_mk, M_number_mk, M_codeSort_mk, M_codeA_mk, M_codeB_mk, M_codeC_mk, M_codeName_mk, M_codePlace_mk, M_codeTo_mk, M_labelName_mk, M_labelAt_mk, M_data_mk, E]
          · simp only [M_cd_mk, M_number_mk, M_codeSort_mk, M_codeA_mk, M_codeB_mk, M_codeC_mk, M_codeName_mk, M_codePlace_mk, M_codeTo_mk, M_labelName_mk, M_labelAt_mk, M_data_mk, E]; exact ⟨trivial, trivial⟩
        · exact Or.inr bdz2
    · skip
      obtain ⟨sz2, kz2, oz2, bdz2, fmz2, cdz2, hdz2⟩ := BC bdz1 pr (NN 20) (NN 2) (40 + sz) 3
      have E : M_cd sz2 = cC (cB (cA (c0 (M_cd m) (40 + sz) (NN 19)) (40 + sz) (NN Vz0)) (40 + sz) (NN 0)) (40 + sz) (NN 0) := by rw [cdz2, cdz1, cdz0, hcb]
      have E8 : M_number (M_cd sz2) 18 = NN sz := by rw [E]; exact h8
      have e9 := fin8_eq E8
      refine ⟨rz1, F9 sz2 sz, (NN Vz0), (NN 0), (NN 0), fun K => ?_, ?_, (FR1_trans (FR1_trans (FR1_refl rd0) frz0) frz1), (FM1_trans (FM1_trans (FM1_trans (FM1_refl m1) fmz0) fmz1) fmz2), (hdz2.trans (hdz1.trans (hdz0.trans rfl))), ?_, ?_⟩
      · rw [kz0, bd_some, kz1, bd_some, kz2, bd_some]
      · rw [eR, oz0, bd_some, oz1, bd_some, oz2, bd_some]
        exact e9
      · refine ⟨?_, fun j => ?_, fun j => ?_, fun j => ?_, fun j => ?_, ?_, ?_, ?_, ?_, fun j hj => ?_⟩
        · simp only [M_cd_mk, M_number_mk, M_codeSort_mk, M_codeA_mk, M_codeB_mk, M_codeC_mk, M_codeName_mk, M_codePlace_mk, M_codeTo_mk, M_labelName_mk, M_labelAt_mk, M_data_mk, E]
        · simp only [M_cd_mk, M_number_mk, M_codeSort_mk, M_codeA_mk, M_codeB_mk, M_codeC_mk, M_codeName_mk, M_codePlace_mk, M_codeTo_mk, M_labelName_mk, M_labelAt_mk, M_data_mk, E, upd_upd]
        · simp only [M_cd_mk, M_number_mk, M_codeSort_mk, M_codeA_mk, M_codeB_mk, M_codeC_mk, M_codeName_mk, M_codePlace_mk, M_codeTo_mk, M_labelName_mk, M_labelAt_mk, M_data_mk, E, upd_upd]
        · simp only [M_cd_mk, M_number_mk, M_codeSort_mk, M_codeA_mk, M_codeB_mk, M_codeC_mk, M_codeName_mk, M_codePlace_mk, M_codeTo_mk, M_labelName_mk, M_labelAt_mk, M_data_mk, E, upd_upd]
        · simp only [M_cd_mk, M_number_mk, M_codeSort_mk, M_codeA_mk, M_codeB_mk, M_codeC_mk, M_codeName_mk, M_codePlace_mk, M_codeTo_mk, M_labelName_mk, M_labelAt_mk, M_data_mk, E, upd_upd]
        · simp only [M_cd_mk, M_number_mk, M_codeSort_mk, M_codeA_mk, M_codeB_mk, M_codeC_mk, M_codeName_mk, M_codePlace_mk, M_codeTo_mk, M_labelName_mk, M_labelAt_mk, M_data_mk, E]
        · simp only [M_cd_mk, M_number_mk, M_codeSort_mk, M_codeA_mk, M_codeB_mk, M_codeC_mk, M_codeName_mk, M_codePlace_mk, M_codeTo_mk, M_labelName_mk, M_labelAt_mk, M_data_mk, E]
        · simp only [M_cd_mk, M_number_mk, M_codeSort_mk, M_codeA_mk, M_codeB_mk, M_codeC_mk, M_codeName_mk, M_codePlace_mk, M_codeTo_mk, M_labelName_mk, M_labelAt_mk, M_data_mk, E]
        · simp only [M_cd_mk, M_number_mk, M_codeSort_mk, M_codeA_mk, M_codeB_mk, M_codeC_mk, M_codeName_mk, M_codePlace_mk, M_codeTo_mk, M_labelName_mk, M_labelAt_mk, M_data_mk, E]
        · simp only [M_cd_mk, M_number_mk, M_codeSort_mk, M_codeA_mk, M_codeB_mk, M_codeC_mk, M_codeName_mk, M_codePlace_mk, M_codeTo_mk, M_labelName_mk, M_labelAt_mk, M_data_mk, E]; exact ⟨trivial, trivial⟩
      · exact Or.inr bdz2
  · skip
    obtain ⟨sz1, kz1, oz1, bdz1, fmz1, cdz1, hdz1⟩ := BB bdz0 pr (NN 20) (NN 1) (40 + sz) 3
    obtain ⟨sz2, kz2, oz2, bdz2, fmz2, cdz2, hdz2⟩ := BC bdz1 pr (NN 20) (NN 2) (40 + sz) 3
    have E : M_cd sz2 = cC (cB (cA (c0 (M_cd m) (40 + sz) (NN 19)) (40 + sz) (NN 0)) (40 + sz) (NN 0)) (40 + sz) (NN 0) := by rw [cdz2, cdz1, cdz0, hcb]
    have E8 : M_number (M_cd sz2) 18 = NN sz := by rw [E]; exact h8
    have e9 := fin8_eq E8
    refine ⟨rz0, F9 sz2 sz, (NN 0), (NN 0), (NN 0), fun K => ?_, ?_, (FR1_trans (FR1_refl rd0) frz0), (FM1_trans (FM1_trans (FM1_trans (FM1_refl m1) fmz0) fmz1) fmz2), (hdz2.trans (hdz1.trans (hdz0.trans rfl))), ?_, ?_⟩
    · rw [kz0, bd_some, kz1, bd_some, kz2, bd_some]
    · rw [eR, oz0, bd_some, oz1, bd_some, oz2, bd_some]
      exact e9
    · refine ⟨?_, fun j => ?_, fun j => ?_, fun j => ?_, fun j => ?_, ?_, ?_, ?_, ?_, fun j hj => ?_⟩
      · simp only [M_cd_mk, M_number_mk, M_codeSort_mk, M_codeA_mk, M_codeB_mk, M_codeC_mk, M_codeName_mk, M_codePlace_mk, M_codeTo_mk, M_labelName_mk, M_labelAt_mk, M_data_mk, E]
      · simp only [M_cd_mk, M_number_mk, M_codeSort_mk, M_codeA_mk, M_codeB_mk, M_codeC_mk, M_codeName_mk, M_codePlace_mk, M_codeTo_mk, M_labelName_mk, M_labelAt_mk, M_data_mk, E, upd_upd]
      · simp only [M_cd_mk, M_number_mk, M_codeSort_mk, M_codeA_mk, M_codeB_mk, M_codeC_mk, M_codeName_mk, M_codePlace_mk, M_codeTo_mk, M_labelName_mk, M_labelAt_mk, M_data_mk, E, upd_upd]
      · simp only [M_cd_mk, M_number_mk, M_codeSort_mk, M_codeA_mk, M_codeB_mk, M_codeC_mk, M_codeName_mk, M_codePlace_mk, M_codeTo_mk, M_labelName_mk, M_labelAt_mk, M_data_mk, E, upd_upd]
      · simp only [M_cd_mk, M_number_mk, M_codeSort_mk, M_codeA_mk, M_codeB_mk, M_codeC_mk, M_codeName_mk, M_codePlace_mk, M_codeTo_mk, M_labelName_mk, M_labelAt_mk, M_data_mk, E, upd_upd]
      · simp only [M_cd_mk, M_number_mk, M_codeSort_mk, M_codeA_mk, M_codeB_mk, M_codeC_mk, M_codeName_mk, M_codePlace_mk, M_codeTo_mk, M_labelName_mk, M_labelAt_mk, M_data_mk, E]
      · simp only [M_cd_mk, M_number_mk, M_codeSort_mk, M_codeA_mk, M_codeB_mk, M_codeC_mk, M_codeName_mk, M_codePlace_mk, M_codeTo_mk, M_labelName_mk, M_labelAt_mk, M_data_mk, E]
      · simp only [M_cd_mk, M_number_mk, M_codeSort_mk, M_codeA_mk, M_codeB_mk, M_codeC_mk, M_codeName_mk, M_codePlace_mk, M_codeTo_mk, M_labelName_mk, M_labelAt_mk, M_data_mk, E]
      · simp only [M_cd_mk, M_number_mk, M_codeSort_mk, M_codeA_mk, M_codeB_mk, M_codeC_mk, M_codeName_mk, M_codePlace_mk, M_codeTo_mk, M_labelName_mk, M_labelAt_mk, M_data_mk, E]
      · simp only [M_cd_mk, M_number_mk, M_codeSort_mk, M_codeA_mk, M_codeB_mk, M_codeC_mk, M_codeName_mk, M_codePlace_mk, M_codeTo_mk, M_labelName_mk, M_labelAt_mk, M_data_mk, E]; exact ⟨trivial, trivial⟩
    · exact Or.inr bdz2
set_option maxHeartbeats 4000000 in
theorem IL_21 {T : Nat → Nat} {n : Nat} {rd0 : T_Rd} {m1 m : T_M} {pl1 q1 sz : Nat} (hA : AH T n rd0 m1 pl1 q1) (hwd : WD rd0) (hsd : SD rd0) (hp0 : ∀ j, j < 3 → Rd_parts rd0 j = NN 0) (pr : T_Pg) (hps : Pg_size pr = NN sz) (hsz : sz < 40) (h8 : M_number (M_cd m) 18 = NN sz) (eg : f_M_goOn m = some m1) (hc : M_cd m1 = M_cd m) : IR T n rd0 m1 m pr 21 20 14 sz pl1 := by
  have hf1 := AH_M0 hA
  have eR := RC_20 h8 hsz eg hf1 hc
  have h0 : AH T n rd0 (sC m1 (c0 (M_cd m1) (40 + sz) (NN 20))) pl1 q1 := hA
  have hcb : M_cd (sC m1 (c0 (M_cd m1) (40 + sz) (NN 20))) = c0 (M_cd m) (40 + sz) (NN 20) := by rw [hc]; rfl
  rcases JT h0 (by unfold WD at hwd ⊢; rw [((FR1_refl rd0)).2.2.1]; exact hwd) pr (w := 21) (k := 0) (by omega) (by omega) ((congrFun ((FR1_refl rd0)).2.2.2.1 _).trans (hsd 63 (by omega))) hps hsz with ⟨rz0, sz0, Vz0, plz0, qz0, kz0, oz0, ahz0, lez0, p7z0, frz0, fmz0, pez0, waz0, tdz0, cdz0, hdz0⟩ | ⟨rz0, sz0, vvz0, ppz0, kz0, oz0, bdz0, frz0, fmz0, cdz0, hdz0⟩
  · skip
    have kz1 := cst_skip (pr := pr) (w := 21) (k := 1) (v := rz0) (by omega) (by omega) ((congrFun ((FR1_trans (FR1_refl rd0) frz0)).2.2.2.1 _).trans (hsd 64 (by omega)))
    have kz2 := cst_skip (pr := pr) (w := 21) (k := 2) (v := rz0) (by omega) (by omega) ((congrFun ((FR1_trans (FR1_refl rd0) frz0)).2.2.2.1 _).trans (hsd 65 (by omega)))
    have E : M_cd sz0 = cT (c0 (M_cd m) (40 + sz) (NN 20)) (40 + sz) (NN Vz0) (NN pl1) := by rw [cdz0, hcb]
    have E8 : M_number (M_cd sz0) 18 = NN sz := by rw [E]; exact h8
    have e9 := fin8_eq E8
    refine ⟨rz0, F9 sz0 sz, (NN 0), (NN 0), (NN 0), fun K => ?_, ?_, (FR1_trans (FR1_refl rd0) frz0), (FM1_trans (FM1_refl m1) fmz0), (hdz0.trans rfl), ?_, ?_⟩
    · rw [kz0, bd_some, kz1, bd_some, kz2, bd_some]
    · rw [eR, oz0, bd_some]
      exact e9
    · refine ⟨?_, fun j => ?_, fun j => ?_, fun j => ?_, fun j => ?_, ?_, ?_, ?_, ?_, fun j hj => ?_⟩
      · simp only [M_cd_mk, M_number_mk, M_codeSort_mk, M_codeA_mk, M_codeB_mk, M_codeC_mk, M_codeName_mk, M_codePlace_mk, M_codeTo_mk, M_labelName_mk, M_labelAt_mk, M_data_mk, E]
      · simp only [M_cd_mk, M_number_mk, M_codeSort_mk, M_codeA_mk, M_codeB_mk, M_codeC_mk, M_codeName_mk, M_codePlace_mk, M_codeTo_mk, M_labelName_mk, M_labelAt_mk, M_data_mk, E, upd_upd]
      · simp only [M_cd_mk, M_number_mk, M_codeSort_mk, M_codeA_mk, M_codeB_mk, M_codeC_mk, M_codeName_mk, M_codePlace_mk, M_codeTo_mk, M_labelName_mk, M_labelAt_mk, M_data_mk, E, upd_upd]
      · simp only [M_cd_mk, M_number_mk, M_codeSort_mk, M_codeA_mk, M_codeB_mk, M_codeC_mk, M_codeName_mk, M_codePlace_mk, M_codeTo_mk, M_labelName_mk, M_labelAt_mk, M_data_mk, E, upd_upd]
      · simp only [M_cd_mk, M_number_mk, M_codeSort_mk, M_codeA_mk, M_codeB_mk, M_codeC_mk, M_codeName_mk, M_codePlace_mk, M_codeTo_mk, M_labelName_mk, M_labelAt_mk, M_data_mk, E, upd_upd]
      · simp only [M_cd_mk, M_number_mk, M_codeSort_mk, M_codeA_mk, M_codeB_mk, M_codeC_mk, M_codeName_mk, M_codePlace_mk, M_codeTo_mk, M_labelName_mk, M_labelAt_mk, M_data_mk, E]
      · simp only [M_cd_mk, M_number_mk, M_codeSort_mk, M_codeA_mk, M_codeB_mk, M_codeC_mk, M_codeName_mk, M_codePlace_mk, M_codeTo_mk, M_labelName_mk, M_labelAt_mk, M_data_mk, E]
      · simp only [M_cd_mk, M_number_mk, M_codeSort_mk, M_codeA_mk, M_codeB_mk, M_codeC_mk, M_codeName_mk, M_codePlace_mk, M_codeTo_mk, M_labelName_mk, M_labelAt_mk, M_data_mk, E]
      · simp only [M_cd_mk, M_number_mk, M_codeSort_mk, M_codeA_mk, M_codeB_mk, M_codeC_mk, M_codeName_mk, M_codePlace_mk, M_codeTo_mk, M_labelName_mk, M_labelAt_mk, M_data_mk, E]
      · simp only [M_cd_mk, M_number_mk, M_codeSort_mk, M_codeA_mk, M_codeB_mk, M_codeC_mk, M_codeName_mk, M_codePlace_mk, M_codeTo_mk, M_labelName_mk, M_labelAt_mk, M_data_mk, E]; exact ⟨upd_ne hj, upd_ne hj⟩
    · refine Or.inl ⟨plz0, qz0, ahz0, (Nat.le_trans (Nat.le_refl pl1) lez0), (tdz0.trans rfl), ⟨0, 0, 0, ?_, rfl, rfl, ?_, ?_, ?_, ?_⟩⟩
      · refine ⟨by omega, by omega, by omega, by omega, ?_, ?_, ?_, ?_, ?_, ?_, ?_⟩ <;> omega
      · rw [pez0, upd_ne (by omega)]; exact hp0 0 (by omega)
      · rw [pez0, upd_ne (by omega)]; exact hp0 1 (by omega)
      · intro hx; omega
      · intro _
        refine ⟨?_, pl1, p7z0, by rw [waz0], ?_⟩
        · simp only [M_cd_mk, M_number_mk, M_codeSort_mk, M_codeA_mk, M_codeB_mk, M_codeC_mk, M_codeName_mk, M_codePlace_mk, M_codeTo_mk, M_labelName_mk, M_labelAt_mk, M_data_mk, E]; rw [upd_at rfl]; rw [pez0]; exact upd_at rfl
        · simp only [M_cd_mk, M_number_mk, M_codeSort_mk, M_codeA_mk, M_codeB_mk, M_codeC_mk, M_codeName_mk, M_codePlace_mk, M_codeTo_mk, M_labelName_mk, M_labelAt_mk, M_data_mk, E]; exact upd_at rfl
  · skip
    have kz1 := cst_skip (pr := pr) (w := 21) (k := 1) (v := rz0) (by omega) (by omega) ((congrFun ((FR1_trans (FR1_refl rd0) frz0)).2.2.2.1 _).trans (hsd 64 (by omega)))
    have kz2 := cst_skip (pr := pr) (w := 21) (k := 2) (v := rz0) (by omega) (by omega) ((congrFun ((FR1_trans (FR1_refl rd0) frz0)).2.2.2.1 _).trans (hsd 65 (by omega)))
    have E : M_cd sz0 = cT (c0 (M_cd m) (40 + sz) (NN 20)) (40 + sz) vvz0 ppz0 := by rw [cdz0, hcb]
    have E8 : M_number (M_cd sz0) 18 = NN sz := by rw [E]; exact h8
    have e9 := fin8_eq E8
    refine ⟨rz0, F9 sz0 sz, (NN 0), (NN 0), (NN 0), fun K => ?_, ?_, (FR1_trans (FR1_refl rd0) frz0), (FM1_trans (FM1_refl m1) fmz0), (hdz0.trans rfl), ?_, ?_⟩
    · rw [kz0, bd_some, kz1, bd_some, kz2, bd_some]
    · rw [eR, oz0, bd_some]
      exact e9
    · refine ⟨?_, fun j => ?_, fun j => ?_, fun j => ?_, fun j => ?_, ?_, ?_, ?_, ?_, fun j hj => ?_⟩
      · simp only [M_cd_mk, M_number_mk, M_codeSort_mk, M_codeA_mk, M_codeB_mk, M_codeC_mk, M_codeName_mk, M_codePlace_mk, M_codeTo_mk, M_labelName_mk, M_labelAt_mk, M_data_mk, E]
      · simp only [M_cd_mk, M_number_mk, M_codeSort_mk, M_codeA_mk, M_codeB_mk, M_codeC_mk, M_codeName_mk, M_codePlace_mk, M_codeTo_mk, M_labelName_mk, M_labelAt_mk, M_data_mk, E, upd_upd]
      · simp only [M_cd_mk, M_number_mk, M_codeSort_mk, M_codeA_mk, M_codeB_mk, M_codeC_mk, M_codeName_mk, M_codePlace_mk, M_codeTo_mk, M_labelName_mk, M_labelAt_mk, M_data_mk, E, upd_upd]
      · simp only [M_cd_mk, M_number_mk, M_codeSort_mk, M_codeA_mk, M_codeB_mk, M_codeC_mk, M_codeName_mk, M_codePlace_mk, M_codeTo_mk, M_labelName_mk, M_labelAt_mk, M_data_mk, E, upd_upd]
      · simp only [M_cd_mk, M_number_mk, M_codeSort_mk, M_codeA_mk, M_codeB_mk, M_codeC_mk, M_codeName_mk, M_codePlace_mk, M_codeTo_mk, M_labelName_mk, M_labelAt_mk, M_data_mk, E, upd_upd]
      · simp only [M_cd_mk, M_number_mk, M_codeSort_mk, M_codeA_mk, M_codeB_mk, M_codeC_mk, M_codeName_mk, M_codePlace_mk, M_codeTo_mk, M_labelName_mk, M_labelAt_mk, M_data_mk, E]
      · simp only [M_cd_mk, M_number_mk, M_codeSort_mk, M_codeA_mk, M_codeB_mk, M_codeC_mk, M_codeName_mk, M_codePlace_mk, M_codeTo_mk, M_labelName_mk, M_labelAt_mk, M_data_mk, E]
      · simp only [M_cd_mk, M_number_mk, M_codeSort_mk, M_codeA_mk, M_codeB_mk, M_codeC_mk, M_codeName_mk, M_codePlace_mk, M_codeTo_mk, M_labelName_mk, M_labelAt_mk, M_data_mk, E]
      · simp only [M_cd_mk, M_number_mk, M_codeSort_mk, M_codeA_mk, M_codeB_mk, M_codeC_mk, M_codeName_mk, M_codePlace_mk, M_codeTo_mk, M_labelName_mk, M_labelAt_mk, M_data_mk, E]
      · simp only [M_cd_mk, M_number_mk, M_codeSort_mk, M_codeA_mk, M_codeB_mk, M_codeC_mk, M_codeName_mk, M_codePlace_mk, M_codeTo_mk, M_labelName_mk, M_labelAt_mk, M_data_mk, E]; exact ⟨upd_ne hj, upd_ne hj⟩
    · exact Or.inr bdz0
set_option maxHeartbeats 4000000 in
theorem IL_22 {T : Nat → Nat} {n : Nat} {rd0 : T_Rd} {m1 m : T_M} {pl1 q1 sz : Nat} (hA : AH T n rd0 m1 pl1 q1) (hwd : WD rd0) (hsd : SD rd0) (hp0 : ∀ j, j < 3 → Rd_parts rd0 j = NN 0) (pr : T_Pg) (hps : Pg_size pr = NN sz) (hsz : sz < 40) (h8 : M_number (M_cd m) 18 = NN sz) (eg : f_M_goOn m = some m1) (hc : M_cd m1 = M_cd m) : IR T n rd0 m1 m pr 22 21 15 sz pl1 := by
  have hf1 := AH_M0 hA
  have eR := RC_21 h8 hsz eg hf1 hc
  have h0 : AH T n rd0 (sC m1 (c0 (M_cd m1) (40 + sz) (NN 21))) pl1 q1 := hA
  have hcb : M_cd (sC m1 (c0 (M_cd m1) (40 + sz) (NN 21))) = c0 (M_cd m) (40 + sz) (NN 21) := by rw [hc]; rfl
  rcases JA h0 pr (40 + sz) (w := 22) (k := 0) (s := 114) (hi := 7) (by omega) (by omega) ((congrFun ((FR1_refl rd0)).2.2.2.1 _).trans (hsd 66 (by omega))) (Or.inr (Or.inr (Or.inr (Or.inr (Or.inr (Or.inl ⟨rfl, rfl, rfl⟩)))))) with ⟨rz0, sz0, Vz0, plz0, qz0, vz0, kz0, oz0, ahz0, lez0, frz0, fmz0, pez0, waz0, tdz0, cdz0, hdz0⟩ | ⟨rz0, sz0, kz0, oz0, bdz0, frz0, fmz0, cdz0, hdz0⟩
  · skip
    rcases JT ahz0 (by unfold WD at hwd ⊢; rw [((FR1_trans (FR1_refl rd0) frz0)).2.2.1]; exact hwd) pr (w := 22) (k := 1) (by omega) (by omega) ((congrFun ((FR1_trans (FR1_refl rd0) frz0)).2.2.2.1 _).trans (hsd 67 (by omega))) hps hsz with ⟨rz1, sz1, Vz1, plz1, qz1, kz1, oz1, ahz1, lez1, p7z1, frz1, fmz1, pez1, waz1, tdz1, cdz1, hdz1⟩ | ⟨rz1, sz1, vvz1, ppz1, kz1, oz1, bdz1, frz1, fmz1, cdz1, hdz1⟩
    · skip
      have kz2 := cst_skip (pr := pr) (w := 22) (k := 2) (v := rz1) (by omega) (by omega) ((congrFun ((FR1_trans (FR1_trans (FR1_refl rd0) frz0) frz1)).2.2.2.1 _).trans (hsd 68 (by omega)))
      have E : M_cd sz1 = cT (cA (c0 (M_cd m) (40 + sz) (NN 21)) (40 + sz) (NN Vz0)) (40 + sz) (NN Vz1) (NN plz0) := by rw [cdz1, cdz0, hcb]
      have E8 : M_number (M_cd sz1) 18 = NN sz := by rw [E]; exact h8
      have e9 := fin8_eq E8
      refine ⟨rz1, F9 sz1 sz, (NN Vz0), (NN 0), (NN 0), fun K => ?_, ?_, (FR1_trans (FR1_trans (FR1_refl rd0) frz0) frz1), (FM1_trans (FM1_trans (FM1_refl m1) fmz0) fmz1), (hdz1.trans (hdz0.trans rfl)), ?_, ?_⟩
      · rw [kz0, bd_some, kz1, bd_some, kz2, bd_some]
      · rw [eR, oz0, bd_some, oz1, bd_some]
        exact e9
      · refine ⟨?_, fun j => ?_, fun j => ?_, fun j => ?_, fun j => ?_, ?_, ?_, ?_, ?_, fun j hj => ?_⟩
        · simp only [M_cd_mk, M_number_mk, M_codeSort_mk, M_codeA_mk, M_codeB_mk, M_codeC_mk, M_codeName_mk, M_codePlace_mk, M_codeTo_mk, M_labelName_mk, M_labelAt_mk, M_data_mk, E]
        · simp only [M_cd_mk, M_number_mk, M_codeSort_mk, M_codeA_mk, M_codeB_mk, M_codeC_mk, M_codeName_mk, M_codePlace_mk, M_codeTo_mk, M_labelName_mk, M_labelAt_mk, M_data_mk, E, upd_upd]
        · simp only [M_cd_mk, M_number_mk, M_codeSort_mk, M_codeA_mk, M_codeB_mk, M_codeC_mk, M_codeName_mk, M_codePlace_mk, M_codeTo_mk, M_labelName_mk, M_labelAt_mk, M_data_mk, E, upd_upd]
        · simp only [M_cd_mk, M_number_mk, M_codeSort_mk, M_codeA_mk, M_codeB_mk, M_codeC_mk, M_codeName_mk, M_codePlace_mk, M_codeTo_mk, M_labelName_mk, M_labelAt_mk, M_data_mk, E, upd_upd]
        · simp only [M_cd_mk, M_number_mk, M_codeSort_mk, M_codeA_mk, M_codeB_mk, M_codeC_mk, M_codeName_mk, M_codePlace_mk, M_codeTo_mk, M_labelName_mk, M_labelAt_mk, M_data_mk, E, upd_upd]
        · simp only [M_cd_mk, M_number_mk, M_codeSort_mk, M_codeA_mk, M_codeB_mk, M_codeC_mk, M_codeName_mk, M_codePlace_mk, M_codeTo_mk, M_labelName_mk, M_labelAt_mk, M_data_mk, E]
        · simp only [M_cd_mk, M_number_mk, M_codeSort_mk, M_codeA_mk, M_codeB_mk, M_codeC_mk, M_codeName_mk, M_codePlace_mk, M_codeTo_mk, M_labelName_mk, M_labelAt_mk, M_data_mk, E]
        · simp only [M_cd_mk, M_number_mk, M_codeSort_mk, M_codeA_mk, M_codeB_mk, M_codeC_mk, M_codeName_mk, M_codePlace_mk, M_codeTo_mk, M_labelName_mk, M_labelAt_mk, M_data_mk, E]
        · simp only [M_cd_mk, M_number_mk, M_codeSort_mk, M_codeA_mk, M_codeB_mk, M_codeC_mk, M_codeName_mk, M_codePlace_mk, M_codeTo_mk, M_labelName_mk, M_labelAt_mk, M_data_mk, E]
        · simp only [M_cd_mk, M_number_mk, M_codeSort_mk, M_codeA_mk, M_codeB_mk, M_codeC_mk, M_codeName_mk, M_codePlace_mk, M_codeTo_mk, M_labelName_mk, M_labelAt_mk, M_data_mk, E]; exact ⟨upd_ne hj, upd_ne hj⟩
      · refine Or.inl ⟨plz1, qz1, ahz1, (Nat.le_trans (Nat.le_trans (Nat.le_refl pl1) lez0) lez1), (tdz1.trans (tdz0.trans rfl)), ⟨Vz0, 0, 0, ?_, rfl, rfl, ?_, ?_, ?_, ?_⟩⟩
        · refine ⟨by omega, by omega, by omega, by omega, ?_, ?_, ?_, ?_, ?_, ?_, ?_⟩ <;> omega
        · rw [pez1, upd_ne (by omega)]; rw [pez0]; exact upd_at rfl
        · rw [pez1, upd_ne (by omega)]; rw [pez0, upd_ne (by omega)]; exact hp0 1 (by omega)
        · intro hx; omega
        · intro _
          refine ⟨?_, plz0, p7z1, by rw [waz1, waz0], ?_⟩
          · simp only [M_cd_mk, M_number_mk, M_codeSort_mk, M_codeA_mk, M_codeB_mk, M_codeC_mk, M_codeName_mk, M_codePlace_mk, M_codeTo_mk, M_labelName_mk, M_labelAt_mk, M_data_mk, E]; rw [upd_at rfl]; rw [pez1]; exact upd_at rfl
          · simp only [M_cd_mk, M_number_mk, M_codeSort_mk, M_codeA_mk, M_codeB_mk, M_codeC_mk, M_codeName_mk, M_codePlace_mk, M_codeTo_mk, M_labelName_mk, M_labelAt_mk, M_data_mk, E]; exact upd_at rfl
    · skip
      have kz2 := cst_skip (pr := pr) (w := 22) (k := 2) (v := rz1) (by omega) (by omega) ((congrFun ((FR1_trans (FR1_trans (FR1_refl rd0) frz0) frz1)).2.2.2.1 _).trans (hsd 68 (by omega)))
      have E : M_cd sz1 = cT (cA (c0 (M_cd m) (40 + sz) (NN 21)) (40 + sz) (NN Vz0)) (40 + sz) vvz1 ppz1 := by rw [cdz1, cdz0, hcb]
      have E8 : M_number (M_cd sz1) 18 = NN sz := by rw [E]; exact h8
      have e9 := fin8_eq E8
      refine ⟨rz1, F9 sz1 sz, (NN Vz0), (NN 0), (NN 0), fun K => ?_, ?_, (FR1_trans (FR1_trans (FR1_refl rd0) frz0) frz1), (FM1_trans (FM1_trans (FM1_refl m1) fmz0) fmz1), (hdz1.trans (hdz0.trans rfl)), ?_, ?_⟩
      · rw [kz0, bd_some, kz1, bd_some, kz2, bd_some]
      · rw [eR, oz0, bd_some, oz1, bd_some]
        exact e9
      · refine ⟨?_, fun j => ?_, fun j => ?_, fun j => ?_, fun j => ?_, ?_, ?_, ?_, ?_, fun j hj => ?_⟩
        · simp only [M_cd_mk, M_number_mk, M_codeSort_mk, M_codeA_mk, M_codeB_mk, M_codeC_mk, M_codeName_mk, M_codePlace_mk, M_codeTo_mk, M_labelName_mk, M_labelAt_mk, M_data_mk, E]
        · simp only [M_cd_mk, M_number_mk, M_codeSort_mk, M_codeA_mk, M_codeB_mk, M_codeC_mk, M_codeName_mk, M_codePlace_mk, M_codeTo_mk, M_labelName_mk, M_labelAt_mk, M_data_mk, E, upd_upd]
        · simp only [M_cd_mk, M_number_mk, M_codeSort_mk, M_codeA_mk, M_codeB_mk, M_codeC_mk, M_codeName_mk, M_codePlace_mk, M_codeTo_mk, M_labelName_mk, M_labelAt_mk, M_data_mk, E, upd_upd]
        · simp only [M_cd_mk, M_number_mk, M_codeSort_mk, M_codeA_mk, M_codeB_mk, M_codeC_mk, M_codeName_mk, M_codePlace_mk, M_codeTo_mk, M_labelName_mk, M_labelAt_mk, M_data_mk, E, upd_upd]
        · simp only [M_cd_mk, M_number_mk, M_codeSort_mk, M_codeA_mk, M_codeB_mk, M_codeC_mk, M_codeName_mk, M_codePlace_mk, M_codeTo_mk, M_labelName_mk, M_labelAt_mk, M_data_mk, E, upd_upd]
        · simp only [M_cd_mk, M_number_mk, M_codeSort_mk, M_codeA_mk, M_codeB_mk, M_codeC_mk, M_codeName_mk, M_codePlace_mk, M_codeTo_mk, M_labelName_mk, M_labelAt_mk, M_data_mk, E]
        · simp only [M_cd_mk, M_number_mk, M_codeSort_mk, M_codeA_mk, M_codeB_mk, M_codeC_mk, M_codeName_mk, M_codePlace_mk, M_codeTo_mk, M_labelName_mk, M_labelAt_mk, M_data_mk, E]
        · simp only [M_cd_mk, M_number_mk, M_codeSort_mk, M_codeA_mk, M_codeB_mk, M_codeC_mk, M_codeName_mk, M_codePlace_mk, M_codeTo_mk, M_labelName_mk, M_labelAt_mk, M_data_mk, E]
        · simp only [M_cd_mk, M_number_mk, M_codeSort_mk, M_codeA_mk, M_codeB_mk, M_codeC_mk, M_codeName_mk, M_codePlace_mk, M_codeTo_mk, M_labelName_mk, M_labelAt_mk, M_data_mk, E]
        · simp only [M_cd_mk, M_number_mk, M_codeSort_mk, M_codeA_mk, M_codeB_mk, M_codeC_mk, M_codeName_mk, M_codePlace_mk, M_codeTo_mk, M_labelName_mk, M_labelAt_mk, M_data_mk, E]; exact ⟨upd_ne hj, upd_ne hj⟩
      · exact Or.inr bdz1
  · skip
    obtain ⟨ffz1, hffz1, faz1, fbz1⟩ := BD_fault bdz0
    have kz1 := cst_bad (pr := pr) (w := NN 22) (k := NN 1) faz1 hffz1
    have oz1 := M_readTargetB fbz1 hffz1 (NN (40 + sz))
    have kz2 := cst_skip (pr := pr) (w := 22) (k := 2) (v := rz0) (by omega) (by omega) ((congrFun ((FR1_trans (FR1_refl rd0) frz0)).2.2.2.1 _).trans (hsd 68 (by omega)))
    have E : M_cd sz0 = cA (c0 (M_cd m) (40 + sz) (NN 21)) (40 + sz) (NN 0) := by rw [cdz0, hcb]
    have E8 : M_number (M_cd sz0) 18 = NN sz := by rw [E]; exact h8
    have e9 := fin8_eq E8
    refine ⟨rz0, F9 sz0 sz, (NN 0), (NN 0), (NN 0), fun K => ?_, ?_, (FR1_trans (FR1_refl rd0) frz0), (FM1_trans (FM1_refl m1) fmz0), (hdz0.trans rfl), ?_, ?_⟩
    · rw [kz0, bd_some, kz1, bd_some, kz2, bd_some]
    · rw [eR, oz0, bd_some, oz1, bd_some]
      exact e9
    · refine ⟨?_, fun j => ?_, fun j => ?_, fun j => ?_, fun j => ?_, ?_, ?_, ?_, ?_, fun j hj => ?_⟩
      · simp only [M_cd_mk, M_number_mk, M_codeSort_mk, M_codeA_mk, M_codeB_mk, M_codeC_mk, M_codeName_mk, M_codePlace_mk, M_codeTo_mk, M_labelName_mk, M_labelAt_mk, M_data_mk, E]
      · simp only [M_cd_mk, M_number_mk, M_codeSort_mk, M_codeA_mk, M_codeB_mk, M_codeC_mk, M_codeName_mk, M_codePlace_mk, M_codeTo_mk, M_labelName_mk, M_labelAt_mk, M_data_mk, E, upd_upd]
      · simp only [M_cd_mk, M_number_mk, M_codeSort_mk, M_codeA_mk, M_codeB_mk, M_codeC_mk, M_codeName_mk, M_codePlace_mk, M_codeTo_mk, M_labelName_mk, M_labelAt_mk, M_data_mk, E, upd_upd]
      · simp only [M_cd_mk, M_number_mk, M_codeSort_mk, M_codeA_mk, M_codeB_mk, M_codeC_mk, M_codeName_mk, M_codePlace_mk, M_codeTo_mk, M_labelName_mk, M_labelAt_mk, M_data_mk, E, upd_upd]
      · simp only [M_cd_mk, M_number_mk, M_codeSort_mk, M_codeA_mk, M_codeB_mk, M_codeC_mk, M_codeName_mk, M_codePlace_mk, M_codeTo_mk, M_labelName_mk, M_labelAt_mk, M_data_mk, E, upd_upd]
      · simp only [M_cd_mk, M_number_mk, M_codeSort_mk, M_codeA_mk, M_codeB_mk, M_codeC_mk, M_codeName_mk, M_codePlace_mk, M_codeTo_mk, M_labelName_mk, M_labelAt_mk, M_data_mk, E]
      · simp only [M_cd_mk, M_number_mk, M_codeSort_mk, M_codeA_mk, M_codeB_mk, M_codeC_mk, M_codeName_mk, M_codePlace_mk, M_codeTo_mk, M_labelName_mk, M_labelAt_mk, M_data_mk, E]
      · simp only [M_cd_mk, M_number_mk, M_codeSort_mk, M_codeA_mk, M_codeB_mk, M_codeC_mk, M_codeName_mk, M_codePlace_mk, M_codeTo_mk, M_labelName_mk, M_labelAt_mk, M_data_mk, E]
      · simp only [M_cd_mk, M_number_mk, M_codeSort_mk, M_codeA_mk, M_codeB_mk, M_codeC_mk, M_codeName_mk, M_codePlace_mk, M_codeTo_mk, M_labelName_mk, M_labelAt_mk, M_data_mk, E]
      · simp only [M_cd_mk, M_number_mk, M_codeSort_mk, M_codeA_mk, M_codeB_mk, M_codeC_mk, M_codeName_mk, M_codePlace_mk, M_codeTo_mk, M_labelName_mk, M_labelAt_mk, M_data_mk, E]; exact ⟨trivial, trivial⟩
    · exact Or.inr bdz0
set_option maxHeartbeats 4000000 in
theorem IL_23 {T : Nat → Nat} {n : Nat} {rd0 : T_Rd} {m1 m : T_M} {pl1 q1 sz : Nat} (hA : AH T n rd0 m1 pl1 q1) (hwd : WD rd0) (hsd : SD rd0) (hp0 : ∀ j, j < 3 → Rd_parts rd0 j = NN 0) (pr : T_Pg) (hps : Pg_size pr = NN sz) (hsz : sz < 40) (h8 : M_number (M_cd m) 18 = NN sz) (eg : f_M_goOn m = some m1) (hc : M_cd m1 = M_cd m) : IR T n rd0 m1 m pr 23 22 16 sz pl1 := by
  have hf1 := AH_M0 hA
  have eR := RC_22 h8 hsz eg hf1 hc
  have h0 : AH T n rd0 (sC m1 (c0 (M_cd m1) (40 + sz) (NN 22))) pl1 q1 := hA
  have hcb : M_cd (sC m1 (c0 (M_cd m1) (40 + sz) (NN 22))) = c0 (M_cd m) (40 + sz) (NN 22) := by rw [hc]; rfl
  rcases JA h0 pr (40 + sz) (w := 23) (k := 0) (s := 114) (hi := 7) (by omega) (by omega) ((congrFun ((FR1_refl rd0)).2.2.2.1 _).trans (hsd 69 (by omega))) (Or.inr (Or.inr (Or.inr (Or.inr (Or.inr (Or.inl ⟨rfl, rfl, rfl⟩)))))) with ⟨rz0, sz0, Vz0, plz0, qz0, vz0, kz0, oz0, ahz0, lez0, frz0, fmz0, pez0, waz0, tdz0, cdz0, hdz0⟩ | ⟨rz0, sz0, kz0, oz0, bdz0, frz0, fmz0, cdz0, hdz0⟩
  · skip
    rcases JB ahz0 pr (40 + sz) (w := 23) (k := 1) (s := 114) (hi := 7) (by omega) (by omega) ((congrFun ((FR1_trans (FR1_refl rd0) frz0)).2.2.2.1 _).trans (hsd 70 (by omega))) (Or.inr (Or.inr (Or.inr (Or.inr (Or.inr (Or.inl ⟨rfl, rfl, rfl⟩)))))) with ⟨rz1, sz1, Vz1, plz1, qz1, vz1, kz1, oz1, ahz1, lez1, frz1, fmz1, pez1, waz1, tdz1, cdz1, hdz1⟩ | ⟨rz1, sz1, kz1, oz1, bdz1, frz1, fmz1, cdz1, hdz1⟩
    · skip
      rcases JT ahz1 (by unfold WD at hwd ⊢; rw [((FR1_trans (FR1_trans (FR1_refl rd0) frz0) frz1)).2.2.1]; exact hwd) pr (w := 23) (k := 2) (by omega) (by omega) ((congrFun ((FR1_trans (FR1_trans (FR1_refl rd0) frz0) frz1)).2.2.2.1 _).trans (hsd 71 (by omega))) hps hsz with ⟨rz2, sz2, Vz2, plz2, qz2, kz2, oz2, ahz2, lez2, p7z2, frz2, fmz2, pez2, waz2, tdz2, cdz2, hdz2⟩ | ⟨rz2, sz2, vvz2, ppz2, kz2, oz2, bdz2, frz2, fmz2, cdz2, hdz2⟩
      · skip
        have E : M_cd sz2 = cT (cB (cA (c0 (M_cd m) (40 + sz) (NN 22)) (40 + sz) (NN Vz0)) (40 + sz) (NN Vz1)) (40 + sz) (NN Vz2) (NN plz1) := by rw [cdz2, cdz1, cdz0, hcb]
        have E8 : M_number (M_cd sz2) 18 = NN sz := by rw [E]; exact h8
        have e9 := fin8_eq E8
        refine ⟨rz2, F9 sz2 sz, (NN Vz0), (NN Vz1), (NN 0), fun K => ?_, ?_, (FR1_trans (FR1_trans (FR1_trans (FR1_refl rd0) frz0) frz1) frz2), (FM1_trans (FM1_trans (FM1_trans (FM1_refl m1) fmz0) fmz1) fmz2), (hdz2.trans (hdz1.trans (hdz0.trans rfl))), ?_, ?_⟩
        · rw [kz0, bd_some, kz1, bd_some, kz2, bd_some]
        · rw [eR, oz0, bd_some, oz1, bd_some, oz2, bd_some]
          exact e9
        · refine ⟨?_, fun j => ?_, fun j => ?_, fun j => ?_, fun j => ?_, ?_, ?_, ?_, ?_, fun j hj => ?_⟩
          · simp only [M_cd_mk, M_number_mk, M_codeSort_mk, M_codeA_mk, M_codeB_mk, M_codeC_mk, M_codeName_mk, M_codePlace_mk, M_codeTo_mk, M_labelName_mk, M_labelAt_mk, M_data_mk, E]
          · simp only [M_cd_mk, M_number_mk, M_codeSort_mk, M_codeA_mk, M_codeB_mk, M_codeC_mk, M_codeName_mk, M_codePlace_mk, M_codeTo_mk, M_labelName_mk, M_labelAt_mk, M_data_mk, E, upd_upd]
          · simp only [M_cd_mk, M_number_mk, M_codeSort_mk, M_codeA_mk, M_codeB_mk, M_codeC_mk, M_codeName_mk, M_codePlace_mk, M_codeTo_mk, M_labelName_mk, M_labelAt_mk, M_data_mk, E, upd_upd]
          · simp only [M_cd_mk, M_number_mk, M_codeSort_mk, M_codeA_mk, M_codeB_mk, M_codeC_mk, M_codeName_mk, M_codePlace_mk, M_codeTo_mk, M_labelName_mk, M_labelAt_mk, M_data_mk, E, upd_upd]
          · simp only [M_cd_mk, M_number_mk, M_codeSort_mk, M_codeA_mk, M_codeB_mk, M_codeC_mk, M_codeName_mk, M_codePlace_mk, M_codeTo_mk, M_labelName_mk, M_labelAt_mk, M_data_mk, E, upd_upd]
          · simp only [M_cd_mk, M_number_mk, M_codeSort_mk, M_codeA_mk, M_codeB_mk, M_codeC_mk, M_codeName_mk, M_codePlace_mk, M_codeTo_mk, M_labelName_mk, M_labelAt_mk, M_data_mk, E]
          · simp only [M_cd_mk, M_number_mk, M_codeSort_mk, M_codeA_mk, M_codeB_mk, M_codeC_mk, M_codeName_mk, M_codePlace_mk, M_codeTo_mk, M_labelName_mk, M_labelAt_mk, M_data_mk, E]
          · simp only [M_cd_mk, M_number_mk, M_codeSort_mk, M_codeA_mk, M_codeB_mk, M_codeC_mk, M_codeName_mk, M_codePlace_mk, M_codeTo_mk, M_labelName_mk, M_labelAt_mk, M_data_mk, E]
          · simp only [M_cd_mk, M_number_mk, M_codeSort_mk, M_codeA_mk, M_codeB_mk, M_codeC_mk, M_codeName_mk, M_codePlace_mk, M_codeTo_mk, M_labelName_mk, M_labelAt_mk, M_data_mk, E]
          · simp only [M_cd_mk, M_number_mk, M_codeSort_mk, M_codeA_mk, M_codeB_mk, M_codeC_mk, M_codeName_mk, M_codePlace_mk, M_codeTo_mk, M_labelName_mk, M_labelAt_mk, M_data_mk, E]; exact ⟨upd_ne hj, upd_ne hj⟩
        · refine Or.inl ⟨plz2, qz2, ahz2, (Nat.le_trans (Nat.le_trans (Nat.le_trans (Nat.le_refl pl1) lez0) lez1) lez2), (tdz2.trans (tdz1.trans (tdz0.trans rfl))), ⟨Vz0, Vz1, 0, ?_, rfl, rfl, ?_, ?_, ?_, ?_⟩⟩
          · refine ⟨by omega, by omega, by omega, by omega, ?_, ?_, ?_, ?_, ?_, ?_, ?_⟩ <;> omega
          · rw [pez2, upd_ne (by omega)]; rw [pez1, upd_ne (by omega)]; rw [pez0]; exact upd_at rfl
          · rw [pez2, upd_ne (by omega)]; rw [pez1]; exact upd_at rfl
          · intro hx; omega
          · intro _
            refine ⟨?_, plz1, p7z2, by rw [waz2, waz1, waz0], ?_⟩
            · simp only [M_cd_mk, M_number_mk, M_codeSort_mk, M_codeA_mk, M_codeB_mk, M_codeC_mk, M_codeName_mk, M_codePlace_mk, M_codeTo_mk, M_labelName_mk, M_labelAt_mk, M_data_mk, E]; rw [upd_at rfl]; rw [pez2]; exact upd_at rfl
            · simp only [M_cd_mk, M_number_mk, M_codeSort_mk, M_codeA_mk, M_codeB_mk, M_codeC_mk, M_codeName_mk, M_codePlace_mk, M_codeTo_mk, M_labelName_mk, M_labelAt_mk, M_data_mk, E]; exact upd_at rfl
      · skip
        have E : M_cd sz2 = cT (cB (cA (c0 (M_cd m) (40 + sz) (NN 22)) (40 + sz) (NN Vz0)) (40 + sz) (NN Vz1)) (40 + sz) vvz2 ppz2 := by rw [cdz2, cdz1, cdz0, hcb]
        have E8 : M_number (M_cd sz2) 18 = NN sz := by rw [E]; exact h8
        have e9 := fin8_eq E8
        refine ⟨rz2, F9 sz2 sz, (NN Vz0), (NN Vz1), (NN 0), fun K => ?_, ?_, (FR1_trans (FR1_trans (FR1_trans (FR1_refl rd0) frz0) frz1) frz2), (FM1_trans (FM1_trans (FM1_trans (FM1_refl m1) fmz0) fmz1) fmz2), (hdz2.trans (hdz1.trans (hdz0.trans rfl))), ?_, ?_⟩
        · rw [kz0, bd_some, kz1, bd_some, kz2, bd_some]
        · rw [eR, oz0, bd_some, oz1, bd_some, oz2, bd_some]
          exact e9
        · refine ⟨?_, fun j => ?_, fun j => ?_, fun j => ?_, fun j => ?_, ?_, ?_, ?_, ?_, fun j hj => ?_⟩
          · simp only [M_cd_mk, M_number_mk, M_codeSort_mk, M_codeA_mk, M_codeB_mk, M_codeC_mk, M_codeName_mk, M_codePlace_mk, M_codeTo_mk, M_labelName_mk, M_labelAt_mk, M_data_mk, E]
          · simp only [M_cd_mk, M_number_mk, M_codeSort_mk, M_codeA_mk, M_codeB_mk, M_codeC_mk, M_codeName_mk, M_codePlace_mk, M_codeTo_mk, M_labelName_mk, M_labelAt_mk, M_data_mk, E, upd_upd]
          · simp only [M_cd_mk, M_number_mk, M_codeSort_mk, M_codeA_mk, M_codeB_mk, M_codeC_mk, M_codeName_mk, M_codePlace_mk, M_codeTo_mk, M_labelName_mk, M_labelAt_mk, M_data_mk, E, upd_upd]
          · simp only [M_cd_mk, M_number_mk, M_codeSort_mk, M_codeA_mk, M_codeB_mk, M_codeC_mk, M_codeName_mk, M_codePlace_mk, M_codeTo_mk, M_labelName_mk, M_labelAt_mk, M_data_mk, E, upd_upd]
          · simp only [M_cd_mk, M_number_mk, M_codeSort_mk, M_codeA_mk, M_codeB_mk, M_codeC_mk, M_codeName_mk, M_codePlace_mk, M_codeTo_mk, M_labelName_mk, M_labelAt_mk, M_data_mk, E, upd_upd]
          · simp only [M_cd_mk, M_number_mk, M_codeSort_mk, M_codeA_mk, M_codeB_mk, M_codeC_mk, M_codeName_mk, M_codePlace_mk, M_codeTo_mk, M_labelName_mk, M_labelAt_mk, M_data_mk, E]
          · simp only [M_cd_mk, M_number_mk, M_codeSort_mk, M_codeA_mk, M_codeB_mk, M_codeC_mk, M_codeName_mk, M_codePlace_mk, M_codeTo_mk, M_labelName_mk, M_labelAt_mk, M_data_mk, E]
          · simp only [M_cd_mk, M_number_mk, M_codeSort_mk, M_codeA_mk, M_codeB_mk, M_codeC_mk, M_codeName_mk, M_codePlace_mk, M_codeTo_mk, M_labelName_mk, M_labelAt_mk, M_data_mk, E]
          · simp only [M_cd_mk, M_number_mk, M_codeSort_mk, M_codeA_mk, M_codeB_mk, M_codeC_mk, M_codeName_mk, M_codePlace_mk, M_codeTo_mk, M_labelName_mk, M_labelAt_mk, M_data_mk, E]
          · simp only [M_cd_mk, M_number_mk, M_codeSort_mk, M_codeA_mk, M_codeB_mk, M_codeC_mk, M_codeName_mk, M_codePlace_mk, M_codeTo_mk, M_labelName_mk, M_labelAt_mk, M_data_mk, E]; exact ⟨upd_ne hj, upd_ne hj⟩
        · exact Or.inr bdz2
    · skip
      obtain ⟨ffz2, hffz2, faz2, fbz2⟩ := BD_fault bdz1
      have kz2 := cst_bad (pr := pr) (w := NN 23) (k := NN 2) faz2 hffz2
      have oz2 := M_readTargetB fbz2 hffz2 (NN (40 + sz))
      have E : M_cd sz1 = cB (cA (c0 (M_cd m) (40 + sz) (NN 22)) (40 + sz) (NN Vz0)) (40 + sz) (NN 0) := by rw [cdz1, cdz0, hcb]
      have E8 : M_number (M_cd sz1) 18 = NN sz := by rw [E]; exact h8
      have e9 := fin8_eq E8
      refine ⟨rz1, F9 sz1 sz, (NN Vz0), (NN 0), (NN 0), fun K => ?_, ?_, (FR1_trans (FR1_trans (FR1_refl rd0) frz0) frz1), (FM1_trans (FM1_trans (FM1_refl m1) fmz0) fmz1), (hdz1.trans (hdz0.trans rfl)), ?_, ?_⟩
      · rw [kz0, bd_some, kz1, bd_some, kz2, bd_some]
      · rw [eR, oz0, bd_some, oz1, bd_some, oz2, bd_some]
        exact e9
      · refine ⟨?_, fun j => ?_, fun j => ?_, fun j => ?_, fun j => ?_, ?_, ?_, ?_, ?_, fun j hj => ?_⟩
        · simp only [M_cd_mk, M_number_mk, M_codeSort_mk, M_codeA_mk, M_codeB_mk, M_codeC_mk, M_codeName_mk, M_codePlace_mk, M_codeTo_mk, M_labelName_mk, M_labelAt_mk, M_data_mk, E]
        · simp only [M_cd_mk, M_number_mk, M_codeSort_mk, M_codeA_mk, M_codeB_mk, M_codeC_mk, M_codeName_mk, M_codePlace_mk, M_codeTo_mk, M_labelName_mk, M_labelAt_mk, M_data_mk, E, upd_upd]
        · simp only [M_cd_mk, M_number_mk, M_codeSort_mk, M_codeA_mk, M_codeB_mk, M_codeC_mk, M_codeName_mk, M_codePlace_mk, M_codeTo_mk, M_labelName_mk, M_labelAt_mk, M_data_mk, E, upd_upd]
        · simp only [M_cd_mk, M_number_mk, M_codeSort_mk, M_codeA_mk, M_codeB_mk, M_codeC_mk, M_codeName_mk, M_codePlace_mk, M_codeTo_mk, M_labelName_mk, M_labelAt_mk, M_data_mk, E, upd_upd]
        · simp only [M_cd_mk, M_number_mk, M_codeSort_mk, M_codeA_mk, M_codeB_mk, M_codeC_mk, M_codeName_mk, M_codePlace_mk, M_codeTo_mk, M_labelName_mk, M_labelAt_mk, M_data_mk, E, upd_upd]
        · simp only [M_cd_mk, M_number_mk, M_codeSort_mk, M_codeA_mk, M_codeB_mk, M_codeC_mk, M_codeName_mk, M_codePlace_mk, M_codeTo_mk, M_labelName_mk, M_labelAt_mk, M_data_mk, E]
        · simp only [M_cd_mk, M_number_mk, M_codeSort_mk, M_codeA_mk, M_codeB_mk, M_codeC_mk, M_codeName_mk, M_codePlace_mk, M_codeTo_mk, M_labelName_mk, M_labelAt_mk, M_data_mk, E]
        · simp only [M_cd_mk, M_number_mk, M_codeSort_mk, M_codeA_mk, M_codeB_mk, M_codeC_mk, M_codeName_mk, M_codePlace_mk, M_codeTo_mk, M_labelName_mk, M_labelAt_mk, M_data_mk, E]
        · simp only [M_cd_mk, M_number_mk, M_codeSort_mk, M_codeA_mk, M_codeB_mk, M_codeC_mk, M_codeName_mk, M_codePlace_mk, M_codeTo_mk, M_labelName_mk, M_labelAt_mk, M_data_mk, E]
        · simp only [M_cd_mk, M_number_mk, M_codeSort_mk, M_codeA_mk, M_codeB_mk, M_codeC_mk, M_codeName_mk, M_codePlace_mk, M_codeTo_mk, M_labelName_mk, M_labelAt_mk, M_data_mk, E]; exact ⟨trivial, trivial⟩
      · exact Or.inr bdz1
  · skip
    obtain ⟨sz1, kz1, oz1, bdz1, fmz1, cdz1, hdz1⟩ := BB bdz0 pr (NN 23) (NN 1) (40 + sz) 7
    obtain ⟨ffz2, hffz2, faz2, fbz2⟩ := BD_fault bdz1
    have kz2 := cst_bad (pr := pr) (w := NN 23) (k := NN 2) faz2 hffz2
    have oz2 := M_readTargetB fbz2 hffz2 (NN (40 + sz))
    have E : M_cd sz1 = cB (cA (c0 (M_cd m) (40 + sz) (NN 22)) (40 + sz) (NN 0)) (40 + sz) (NN 0) := by rw [cdz1, cdz0, hcb]
    have E8 : M_number (M_cd sz1) 18 = NN sz := by rw [E]; exact h8
    have e9 := fin8_eq E8
    refine ⟨rz0, F9 sz1 sz, (NN 0), (NN 0), (NN 0), fun K => ?_, ?_, (FR1_trans (FR1_refl rd0) frz0), (FM1_trans (FM1_trans (FM1_refl m1) fmz0) fmz1), (hdz1.trans (hdz0.trans rfl)), ?_, ?_⟩
    · rw [kz0, bd_some, kz1, bd_some, kz2, bd_some]
    · rw [eR, oz0, bd_some, oz1, bd_some, oz2, bd_some]
      exact e9
    · refine ⟨?_, fun j => ?_, fun j => ?_, fun j => ?_, fun j => ?_, ?_, ?_, ?_, ?_, fun j hj => ?_⟩
      · simp only [M_cd_mk, M_number_mk, M_codeSort_mk, M_codeA_mk, M_codeB_mk, M_codeC_mk, M_codeName_mk, M_codePlace_mk, M_codeTo_mk, M_labelName_mk, M_labelAt_mk, M_data_mk, E]
      · simp only [M_cd_mk, M_number_mk, M_codeSort_mk, M_codeA_mk, M_codeB_mk, M_codeC_mk, M_codeName_mk, M_codePlace_mk, M_codeTo_mk, M_labelName_mk, M_labelAt_mk, M_data_mk, E, upd_upd]
      · simp only [M_cd_mk, M_number_mk, M_codeSort_mk, M_codeA_mk, M_codeB_mk, M_codeC_mk, M_codeName_mk, M_codePlace_mk, M_codeTo_mk, M_labelName_mk, M_labelAt_mk, M_data_mk, E, upd_upd]
      · simp only [M_cd_mk, M_number_mk, M_codeSort_mk, M_codeA_mk, M_codeB_mk, M_codeC_mk, M_codeName_mk, M_codePlace_mk, M_codeTo_mk, M_labelName_mk, M_labelAt_mk, M_data_mk, E, upd_upd]
      · simp only [M_cd_mk, M_number_mk, M_codeSort_mk, M_codeA_mk, M_codeB_mk, M_codeC_mk, M_codeName_mk, M_codePlace_mk, M_codeTo_mk, M_labelName_mk, M_labelAt_mk, M_data_mk, E, upd_upd]
      · simp only [M_cd_mk, M_number_mk, M_codeSort_mk, M_codeA_mk, M_codeB_mk, M_codeC_mk, M_codeName_mk, M_codePlace_mk, M_codeTo_mk, M_labelName_mk, M_labelAt_mk, M_data_mk, E]
      · simp only [M_cd_mk, M_number_mk, M_codeSort_mk, M_codeA_mk, M_codeB_mk, M_codeC_mk, M_codeName_mk, M_codePlace_mk, M_codeTo_mk, M_labelName_mk, M_labelAt_mk, M_data_mk, E]
      · simp only [M_cd_mk, M_number_mk, M_codeSort_mk, M_codeA_mk, M_codeB_mk, M_codeC_mk, M_codeName_mk, M_codePlace_mk, M_codeTo_mk, M_labelName_mk, M_labelAt_mk, M_data_mk, E]
      · simp only [M_cd_mk, M_number_mk, M_codeSort_mk, M_codeA_mk, M_codeB_mk, M_codeC_mk, M_codeName_mk, M_codePlace_mk, M_codeTo_mk, M_labelName_mk, M_labelAt_mk, M_data_mk, E]
      · simp only [M_cd_mk, M_number_mk, M_codeSort_mk, M_codeA_mk, M_codeB_mk, M_codeC_mk, M_codeName_mk, M_codePlace_mk, M_codeTo_mk, M_labelName_mk, M_labelAt_mk, M_data_mk, E]; exact ⟨trivial, trivial⟩
    · exact Or.inr bdz1
set_option maxHeartbeats 4000000 in
theorem IL_24 {T : Nat → Nat} {n : Nat} {rd0 : T_Rd} {m1 m : T_M} {pl1 q1 sz : Nat} (hA : AH T n rd0 m1 pl1 q1) (hwd : WD rd0) (hsd : SD rd0) (hp0 : ∀ j, j < 3 → Rd_parts rd0 j = NN 0) (pr : T_Pg) (hps : Pg_size pr = NN sz) (hsz : sz < 40) (h8 : M_number (M_cd m) 18 = NN sz) (eg : f_M_goOn m = some m1) (hc : M_cd m1 = M_cd m) : IR T n rd0 m1 m pr 24 23 17 sz pl1 := by
  have hf1 := AH_M0 hA
  have eR := RC_23 h8 hsz eg hf1 hc
  have h0 : AH T n rd0 (sC m1 (c0 (M_cd m1) (40 + sz) (NN 23))) pl1 q1 := hA
  have hcb : M_cd (sC m1 (c0 (M_cd m1) (40 + sz) (NN 23))) = c0 (M_cd m) (40 + sz) (NN 23) := by rw [hc]; rfl
  rcases JA h0 pr (40 + sz) (w := 24) (k := 0) (s := 102) (hi := 3) (by omega) (by omega) ((congrFun ((FR1_refl rd0)).2.2.2.1 _).trans (hsd 72 (by omega))) (Or.inr (Or.inr (Or.inr (Or.inr (Or.inr (Or.inr (Or.inl ⟨rfl, rfl, rfl⟩))))))) with ⟨rz0, sz0, Vz0, plz0, qz0, vz0, kz0, oz0, ahz0, lez0, frz0, fmz0, pez0, waz0, tdz0, cdz0, hdz0⟩ | ⟨rz0, sz0, kz0, oz0, bdz0, frz0, fmz0, cdz0, hdz0⟩
  · skip
    rcases JB ahz0 pr (40 + sz) (w := 24) (k := 1) (s := 102) (hi := 3) (by omega) (by omega) ((congrFun ((FR1_trans (FR1_refl rd0) frz0)).2.2.2.1 _).trans (hsd 73 (by omega))) (Or.inr (Or.inr (Or.inr (Or.inr (Or.inr (Or.inr (Or.inl ⟨rfl, rfl, rfl⟩))))))) with ⟨rz1, sz1, Vz1, plz1, qz1, vz1, kz1, oz1, ahz1, lez1, frz1, fmz1, pez1, waz1, tdz1, cdz1, hdz1⟩ | ⟨rz1, sz1, kz1, oz1, bdz1, frz1, fmz1, cdz1, hdz1⟩
    · skip
      rcases JT ahz1 (by unfold WD at hwd ⊢; rw [((FR1_trans (FR1_trans (FR1_refl rd0) frz0) frz1)).2.2.1]; exact hwd) pr (w := 24) (k := 2) (by omega) (by omega) ((congrFun ((FR1_trans (FR1_trans (FR1_refl rd0) frz0) frz1)).2.2.2.1 _).trans (hsd 74 (by omega))) hps hsz with ⟨rz2, sz2, Vz2, plz2, qz2, kz2, oz2, ahz2, lez2, p7z2, frz2, fmz2, pez2, waz2, tdz2, cdz2, hdz2⟩ | ⟨rz2, sz2, vvz2, ppz2, kz2, oz2, bdz2, frz2, fmz2, cdz2, hdz2⟩
      · skip
        have E : M_cd sz2 = cT (cB (cA (c0 (M_cd m) (40 + sz) (NN 23)) (40 + sz) (NN Vz0)) (40 + sz) (NN Vz1)) (40 + sz) (NN Vz2) (NN plz1) := by rw [cdz2, cdz1, cdz0, hcb]
        have E8 : M_number (M_cd sz2) 18 = NN sz := by rw [E]; exact h8
        have e9 := fin8_eq E8
        refine ⟨rz2, F9 sz2 sz, (NN Vz0), (NN Vz1), (NN 0), fun K => ?_, ?_, (FR1_trans (FR1_trans (FR1_trans (FR1_refl rd0) frz0) frz1) frz2), (FM1_trans (FM1_trans (FM1_trans (FM1_refl m1) fmz0) fmz1) fmz2), (hdz2.trans (hdz1.trans (hdz0.trans rfl))), ?_, ?_⟩
        · rw [kz0, bd_some, kz1, bd_some, kz2, bd_some]
        · rw [eR, oz0, bd_some, oz1, bd_some, oz2, bd_some]
          exact e9
        · refine ⟨?_, fun j => ?_, fun j => ?_, fun j => ?_, fun j => ?_, ?_, ?_, ?_, ?_, fun j hj => ?_⟩
          · simp only [M_cd_mk, M_number_mk, M_codeSort_mk, M_codeA_mk, M_codeB_mk, M_codeC_mk, M_codeName_mk, M_codePlace_mk, M_codeTo_mk, M_labelName_mk, M_labelAt_mk, M_data_mk, E]
          · simp only [M_cd_mk, M_number_mk, M_codeSort_mk, M_codeA_mk, M_codeB_mk, M_codeC_mk, M_codeName_mk, M_codePlace_mk, M_codeTo_mk, M_labelName_mk, M_labelAt_mk, M_data_mk, E, upd_upd]
          · simp only [M_cd_mk, M_number_mk, M_codeSort_mk, M_codeA_mk, M_codeB_mk, M_codeC_mk, M_codeName_mk, M_codePlace_mk, M_codeTo_mk, M_labelName_mk, M_labelAt_mk, M_data_mk, E, upd_upd]
          · simp only [M_cd_mk, M_number_mk, M_codeSort_mk, M_codeA_mk, M_codeB_mk, M_codeC_mk, M_codeName_mk, M_codePlace_mk, M_codeTo_mk, M_labelName_mk, M_labelAt_mk, M_data_mk, E, upd_upd]
          · simp only [M_cd_mk, M_number_mk, M_codeSort_mk, M_codeA_mk, M_codeB_mk, M_codeC_mk, M_codeName_mk, M_codePlace_mk, M_codeTo_mk, M_labelName_mk, M_labelAt_mk, M_data_mk, E, upd_upd]
          · simp only [M_cd_mk, M_number_mk, M_codeSort_mk, M_codeA_mk, M_codeB_mk, M_codeC_mk, M_codeName_mk, M_codePlace_mk, M_codeTo_mk, M_labelName_mk, M_labelAt_mk, M_data_mk, E]
          · simp only [M_cd_mk, M_number_mk, M_codeSort_mk, M_codeA_mk, M_codeB_mk, M_codeC_mk, M_codeName_mk, M_codePlace_mk, M_codeTo_mk, M_labelName_mk, M_labelAt_mk, M_data_mk, E]
          · simp only [M_cd_mk, M_number_mk, M_codeSort_mk, M_codeA_mk, M_codeB_mk, M_codeC_mk, M_codeName_mk, M_codePlace_mk, M_codeTo_mk, M_labelName_mk, M_labelAt_mk, M_data_mk, E]
          · simp only [M_cd_mk, M_number_mk, M_codeSort_mk, M_codeA_mk, M_codeB_mk, M_codeC_mk, M_codeName_mk, M_codePlace_mk, M_codeTo_mk, M_labelName_mk, M_labelAt_mk, M_data_mk, E]
          · simp only [M_cd_mk, M_number_mk, M_codeSort_mk, M_codeA_mk, M_codeB_mk, M_codeC_mk, M_codeName_mk, M_codePlace_mk, M_codeTo_mk, M_labelName_mk, M_labelAt_mk, M_data_mk, E]; exact ⟨upd_ne hj, upd_ne hj⟩
        · refine Or.inl ⟨plz2, qz2, ahz2, (Nat.le_trans (Nat.le_trans (Nat.le_trans (Nat.le_refl pl1) lez0) lez1) lez2), (tdz2.trans (tdz1.trans (tdz0.trans rfl))), ⟨Vz0, Vz1, 0, ?_, rfl, rfl, ?_, ?_, ?_, ?_⟩⟩
          · refine ⟨by omega, by omega, by omega, by omega, ?_, ?_, ?_, ?_, ?_, ?_, ?_⟩ <;> omega
          · rw [pez2, upd_ne (by omega)]; rw [pez1, upd_ne (by omega)]; rw [pez0]; exact upd_at rfl
          · rw [pez2, upd_ne (by omega)]; rw [pez1]; exact upd_at rfl
          · intro hx; omega
          · intro _
            refine ⟨?_, plz1, p7z2, by rw [waz2, waz1, waz0], ?_⟩
            · simp only [M_cd_mk, M_number_mk, M_codeSort_mk, M_codeA_mk, M_codeB_mk, M_codeC_mk, M_codeName_mk, M_codePlace_mk, M_codeTo_mk, M_labelName_mk, M_labelAt_mk, M_data_mk, E]; rw [upd_at rfl]; rw [pez2]; exact upd_at rfl
            · simp only [M_cd_mk, M_number_mk, M_codeSort_mk, M_codeA_mk, M_codeB_mk, M_codeC_mk, M_codeName_mk, M_codePlace_mk, M_codeTo_mk, M_labelName_mk, M_labelAt_mk, M_data_mk, E]; exact upd_at rfl
      · skip
        have E : M_cd sz2 = cT (cB (cA (c0 (M_cd m) (40 + sz) (NN 23)) (40 + sz) (NN Vz0)) (40 + sz) (NN Vz1)) (40 + sz) vvz2 ppz2 := by rw [cdz2, cdz1, cdz0, hcb]
        have E8 : M_number (M_cd sz2) 18 = NN sz := by rw [E]; exact h8
        have e9 := fin8_eq E8
        refine ⟨rz2, F9 sz2 sz, (NN Vz0), (NN Vz1), (NN 0), fun K => ?_, ?_, (FR1_trans (FR1_trans (FR1_trans (FR1_refl rd0) frz0) frz1) frz2), (FM1_trans (FM1_trans (FM1_trans (FM1_refl m1) fmz0) fmz1) fmz2), (hdz2.trans (hdz1.trans (hdz0.trans rfl))), ?_, ?_⟩
        · rw [kz0, bd_some, kz1, bd_some, kz2, bd_some]
        · rw [eR, oz0, bd_some, oz1, bd_some, oz2, bd_some]
          exact e9
        · refine ⟨?_, fun j => ?_, fun j => ?_, fun j => ?_, fun j => ?_, ?_, ?_, ?_, ?_, fun j hj => ?_⟩
          · simp only [M_cd_mk, M_number_mk, M_codeSort_mk, M_codeA_mk, M_codeB_mk, M_codeC_mk, M_codeName_mk, M_codePlace_mk, M_codeTo_mk, M_labelName_mk, M_labelAt_mk, M_data_mk, E]
          · simp only [M_cd_mk, M_number_mk, M_codeSort_mk, M_codeA_mk, M_codeB_mk, M_codeC_mk, M_codeName_mk, M_codePlace_mk, M_codeTo_mk, M_labelName_mk, M_labelAt_mk, M_data_mk, E, upd_upd]
          · simp only [M_cd_mk, M_number_mk, M_codeSort_mk, M_codeA_mk, M_codeB_mk, M_codeC_mk, M_codeName_mk, M_codePlace_mk, M_codeTo_mk, M_labelName_mk, M_labelAt_mk, M_data_mk, E, upd_upd]
          · simp only [M_cd_mk, M_number_mk, M_codeSort_mk, M_codeA_mk, M_codeB_mk, M_codeC_mk, M_codeName_mk, M_codePlace_mk, M_codeTo_mk, M_labelName_mk, M_labelAt_mk, M_data_mk, E, upd_upd]
          · simp only [M_cd_mk, M_number_mk, M_codeSort_mk, M_codeA_mk, M_codeB_mk, M_codeC_mk, M_codeName_mk, M_codePlace_mk, M_codeTo_mk, M_labelName_mk, M_labelAt_mk, M_data_mk, E, upd_upd]
          · simp only [M_cd_mk, M_number_mk, M_codeSort_mk, M_codeA_mk, M_codeB_mk, M_codeC_mk, M_codeName_mk, M_codePlace_mk, M_codeTo_mk, M_labelName_mk, M_labelAt_mk, M_data_mk, E]
          · simp only [M_cd_mk, M_number_mk, M_codeSort_mk, M_codeA_mk, M_codeB_mk, M_codeC_mk, M_codeName_mk, M_codePlace_mk, M_codeTo_mk, M_labelName_mk, M_labelAt_mk, M_data_mk, E]
          · simp only [M_cd_mk, M_number_mk, M_codeSort_mk, M_codeA_mk, M_codeB_mk, M_codeC_mk, M_codeName_mk, M_codePlace_mk, M_codeTo_mk, M_labelName_mk, M_labelAt_mk, M_data_mk, E]
          · simp only [M_cd_mk, M_number_mk, M_codeSort_mk, M_codeA_mk, M_codeB_mk, M_codeC_mk, M_codeName_mk, M_codePlace_mk, M_codeTo_mk, M_labelName_mk, M_labelAt_mk, M_data_mk, E]
          · simp only [M_cd_mk, M_number_mk, M_codeSort_mk, M_codeA_mk, M_codeB_mk, M_codeC_mk, M_codeName_mk, M_codePlace_mk, M_codeTo_mk, M_labelName_mk, M_labelAt_mk, M_data_mk, E]; exact ⟨upd_ne hj, upd_ne hj⟩
        · exact Or.inr bdz2
    · skip
      obtain ⟨ffz2, hffz2, faz2, fbz2⟩ := BD_fault bdz1
      have kz2 := cst_bad (pr := pr) (w := NN 24) (k := NN 2) faz2 hffz2
      have oz2 := M_readTargetB fbz2 hffz2 (NN (40 + sz))
      have E : M_cd sz1 = cB (cA (c0 (M_cd m) (40 + sz) (NN 23)) (40 + sz) (NN Vz0)) (40 + sz) (NN 0) := by rw [cdz1, cdz0, hcb]
      have E8 : M_number (M_cd sz1) 18 = NN sz := by rw [E]; exact h8
      have e9 := fin8_eq E8
      refine ⟨rz1, F9 sz1 sz, (NN Vz0), (NN 0), (NN 0), fun K => ?_, ?_, (FR1_trans (FR1_trans (FR1_refl rd0) frz0) frz1), (FM1_trans (FM1_trans (FM1_refl m1) fmz0) fmz1), (hdz1.trans (hdz0.trans rfl)), ?_, ?_⟩
      · rw [kz0, bd_some, kz1, bd_some, kz2, bd_some]
      · rw [eR, oz0, bd_some, oz1, bd_some, oz2, bd_some]
        exact e9
      · refine ⟨?_, fun j => ?_, fun j => ?_, fun j => ?_, fun j => ?_, ?_, ?_, ?_, ?_, fun j hj => ?_⟩
        · simp only [M_cd_mk, M_number_mk, M_codeSort_mk, M_codeA_mk, M_codeB_mk, M_codeC_mk, M_codeName_mk, M_codePlace_mk, M_codeTo_mk, M_labelName_mk, M_labelAt_mk, M_data_mk, E]
        · simp only [M_cd_mk, M_number_mk, M_codeSort_mk, M_codeA_mk, M_codeB_mk, M_codeC_mk, M_codeName_mk, M_codePlace_mk, M_codeTo_mk, M_labelName_mk, M_labelAt_mk, M_data_mk, E, upd_upd]
        · simp only [M_cd_mk, M_number_mk, M_codeSort_mk, M_codeA_mk, M_codeB_mk, M_codeC_mk, M_codeName_mk, M_codePlace_mk, M_codeTo_mk, M_labelName_mk, M_labelAt_mk, M_data_mk, E, upd_upd]
        · simp only [M_cd_mk, M_number_mk, M_codeSort_mk, M_codeA_mk, M_codeB_mk, M_codeC_mk, M_codeName_mk, M_codePlace_mk, M_codeTo_mk, M_labelName_mk, M_labelAt_mk, M_data_mk, E, upd_upd]
        · simp only [M_cd_mk, M_number_mk, M_codeSort_mk, M_codeA_mk, M_codeB_mk, M_codeC_mk, M_codeName_mk, M_codePlace_mk, M_codeTo_mk, M_labelName_mk, M_labelAt_mk, M_data_mk, E, upd_upd]
        · simp only [M_cd_mk, M_number_mk, M_codeSort_mk, M_codeA_mk, M_codeB_mk, M_codeC_mk, M_codeName_mk, M_codePlace_mk, M_codeTo_mk, M_labelName_mk, M_labelAt_mk, M_data_mk, E]
        · simp only [M_cd_mk, M_number_mk, M_codeSort_mk, M_codeA_mk, M_codeB_mk, M_codeC_mk, M_codeName_mk, M_codePlace_mk, M_codeTo_mk, M_labelName_mk, M_labelAt_mk, M_data_mk, E]
        · simp only [M_cd_mk, M_number_mk, M_codeSort_mk, M_codeA_mk, M_codeB_mk, M_codeC_mk, M_codeName_mk, M_codePlace_mk, M_codeTo_mk, M_labelName_mk, M_labelAt_mk, M_data_mk, E]
        · simp only [M_cd_mk, M_number_mk, M_codeSort_mk, M_codeA_mk, M_codeB_mk, M_codeC_mk, M_codeName_mk, M_codePlace_mk, M_codeTo_mk, M_labelName_mk, M_labelAt_mk, M_data_mk, E]
        · simp only [M_cd_mk, M_number_mk, M_codeSort_mk, M_codeA_mk, M_codeB_mk, M_codeC_mk, M_codeName_mk, M_codePlace_mk, M_codeTo_mk, M_labelName_mk, M_labelAt_mk, M_data_mk, E]; exact ⟨trivial, trivial⟩
      · exact Or.inr bdz1
  · skip
    obtain ⟨sz1, kz1, oz1, bdz1, fmz1, cdz1, hdz1⟩ := BB bdz0 pr (NN 24) (NN 1) (40 + sz) 3
    obtain ⟨ffz2, hffz2, faz2, fbz2⟩ := BD_fault bdz1
    have kz2 := cst_bad (pr := pr) (w := NN 24) (k := NN 2) faz2 hffz2
    have oz2 := M_readTargetB fbz2 hffz2 (NN (40 + sz))
    have E : M_cd sz1 = cB (cA (c0 (M_cd m) (40 + sz) (NN 23)) (40 + sz) (NN 0)) (40 + sz) (NN 0) := by rw [cdz1, cdz0, hcb]
    have E8 : M_number (M_cd sz1) 18 = NN sz := by rw [E]; exact h8
    have e9 := fin8_eq E8
    refine ⟨rz0, F9 sz1 sz, (NN 0), (NN 0), (NN 0), fun K => ?_, ?_, (FR1_trans (FR1_refl rd0) frz0), (FM1_trans (FM1_trans (FM1_refl m1) fmz0) fmz1), (hdz1.trans (hdz0.trans rfl)), ?_, ?_⟩
    · rw [kz0, bd_some, kz1, bd_some, kz2, bd_some]
    · rw [eR, oz0, bd_some, oz1, bd_some, oz2, bd_some]
      exact e9
    · refine ⟨?_, fun j => ?_, fun j => ?_, fun j => ?_, fun j => ?_, ?_, ?_, ?_, ?_, fun j hj => ?_⟩
      · simp only [M_cd_mk, M_number_mk, M_codeSort_mk, M_codeA_mk, M_codeB_mk, M_codeC_mk, M_codeName_mk, M_codePlace_mk, M_codeTo_mk, M_labelName_mk, M_labelAt_mk, M_data_mk, E]
      · simp only [M_cd_mk, M_number_mk, M_codeSort_mk, M_codeA_mk, M_codeB_mk, M_codeC_mk, M_codeName_mk, M_codePlace_mk, M_codeTo_mk, M_labelName_mk, M_labelAt_mk, M_data_mk, E, upd_upd]
      · simp only [M_cd_mk, M_number_mk, M_codeSort_mk, M_codeA_mk, M_codeB_mk, M_codeC_mk, M_codeName_mk, M_codePlace_mk, M_codeTo_mk, M_labelName_mk, M_labelAt_mk, M_data_mk, E, upd_upd]
      · simp only [M_cd_mk, M_number_mk, M_codeSort_mk, M_codeA_mk, M_codeB_mk, M_codeC_mk, M_codeName_mk, M_codePlace_mk, M_codeTo_mk, M_labelName_mk, M_labelAt_mk, M_data_mk, E, upd_upd]
      · simp only [M_cd_mk, M_number_mk, M_codeSort_mk, M_codeA_mk, M_codeB_mk, M_codeC_mk, M_codeName_mk, M_codePlace_mk, M_codeTo_mk, M_labelName_mk, M_labelAt_mk, M_data_mk, E, upd_upd]
      · simp only [M_cd_mk, M_number_mk, M_codeSort_mk, M_codeA_mk, M_codeB_mk, M_codeC_mk, M_codeName_mk, M_codePlace_mk, M_codeTo_mk, M_labelName_mk, M_labelAt_mk, M_data_mk, E]
      · simp only [M_cd_mk, M_number_mk, M_codeSort_mk, M_codeA_mk, M_codeB_mk, M_codeC_mk, M_codeName_mk, M_codePlace_mk, M_codeTo_mk, M_labelName_mk, M_labelAt_mk, M_data_mk, E]
      · simp only [M_cd_mk, M_number_mk, M_codeSort_mk, M_codeA_mk, M_codeB_mk, M_codeC_mk, M_codeName_mk, M_codePlace_mk, M_codeTo_mk, M_labelName_mk, M_labelAt_mk, M_data_mk, E]
      · simp only [M_cd_mk, M_number_mk, M_codeSort_mk, M_codeA_mk, M_codeB_mk, M_codeC_mk, M_codeName_mk, M_codePlace_mk, M_codeTo_mk, M_labelName_mk, M_labelAt_mk, M_data_mk, E]
      · simp only [M_cd_mk, M_number_mk, M_codeSort_mk, M_codeA_mk, M_codeB_mk, M_codeC_mk, M_codeName_mk, M_codePlace_mk, M_codeTo_mk, M_labelName_mk, M_labelAt_mk, M_data_mk, E]; exact ⟨trivial, trivial⟩
    · exact Or.inr bdz1
