/-! a TEXT is read -/
def TXT (pr : T_Pg) (m : T_M) : Prop := ∃ sz nc ln, (Pg_size pr = NN sz ∧ M_number (M_cd m) 18 = NN sz ∧ sz ≤ 40) ∧ (Pg_nameCount pr = NN nc ∧ M_number (M_cd m) 19 = NN nc ∧ nc ≤ 140) ∧ (Pg_lines pr = NN ln ∧ M_lines (M_rd m) = NN ln ∧ ln ≤ 700) ∧
  (∀ k, k < 8 → ∃ r, bdR k r ∧ Pg_rules pr k = NN r ∧ M_number (M_cd m) (10 + k) = NN r) ∧ (∀ a, a < 32 → Pg_data pr a = M_data (M_cd m) (32 + a)) ∧
  (∀ k, k < nc → Pg_names pr k = M_labelName (M_cd m) (140 + k) ∧ ∃ a, a ≤ 40 ∧ Pg_namedPlaces pr k = NN a ∧ M_labelAt (M_cd m) (140 + k) = NN a) ∧
  (∀ p, sz ≤ p → p < 64 → Pg_code pr p = NN 0) ∧
  (∀ p, p < sz → ∃ c a b d, IN c a b d ∧ Pg_code pr p = NN c ∧ Pg_first pr p = NN a ∧ Pg_second pr p = NN b ∧ Pg_third pr p = NN d ∧ M_codeSort (M_cd m) (40 + p) = NN (if c = 0 then 24 else c + 6) ∧ M_codeA (M_cd m) (40 + p) = NN a ∧ M_codeB (M_cd m) (40 + p) = NN b ∧ (c < 14 → M_codeC (M_cd m) (40 + p) = NN d) ∧ (14 ≤ c → M_codeTo (M_cd m) (40 + p) = NN d)) ∧
  (ln = 0 → sz = 0 ∧ nc = 0 ∧ (∀ k, k < 10 → M_number (M_cd m) (10 + k) = NN (if k = 0 then 8 else if k = 1 then 1 else if k < 6 then 4 else if k = 6 then 3 else 0)) ∧ ∀ a, a < 32 → M_data (M_cd m) (32 + a) = NN 0)
def drule (k : Nat) : Nat := if k = 0 then 8 else if k = 1 then 1 else if k < 6 then 4 else if k = 6 then 3 else 0
theorem frN_at (N0 : Nat → Int32) : ∀ k, k < 10 → frN N0 (10 + k) = NN (drule k) := by
  intro k hk
  have h : k = 0 ∨ k = 1 ∨ k = 2 ∨ k = 3 ∨ k = 4 ∨ k = 5 ∨ k = 6 ∨ k = 7 ∨ k = 8 ∨ k = 9 := by omega
  rcases h with rfl | rfl | rfl | rfl | rfl | rfl | rfl | rfl | rfl | rfl <;> rfl
theorem frN_low (N0 : Nat → Int32) : ∀ k, k < 10 → frN N0 k = N0 k := by
  intro k hk
  unfold frN
  rw [upd_ne (by omega), upd_ne (by omega), upd_ne (by omega), upd_ne (by omega), upd_ne (by omega), upd_ne (by omega), upd_ne (by omega), if_neg (by omega)]
theorem bdR_drule : ∀ k, k < 8 → bdR k (drule k) := by
  intro k hk
  have h : k = 0 ∨ k = 1 ∨ k = 2 ∨ k = 3 ∨ k = 4 ∨ k = 5 ∨ k = 6 ∨ k = 7 := by omega
  rcases h with rfl | rfl | rfl | rfl | rfl | rfl | rfl | rfl <;> simp [bdR, drule]
def pg0 (v : T_Pg) (C D : Nat → Int32) : T_Pg := (C, (Pg_first v), (Pg_second v), (Pg_third v), upd (upd (upd (upd (upd (upd (upd (upd (Pg_rules v) 0 (NN 8)) 1 (NN 1)) 2 (NN 4)) 3 (NN 4)) 4 (NN 4)) 5 (NN 4)) 6 (NN 3)) 7 (NN 0), D, (Pg_names v), (Pg_namedPlaces v), NN 0, NN 0, NN 0)
theorem pg0_rules (v : T_Pg) (C D : Nat → Int32) : ∀ k, k < 8 → Pg_rules (pg0 v C D) k = NN (drule k) := by
  intro k hk
  have h : k = 0 ∨ k = 1 ∨ k = 2 ∨ k = 3 ∨ k = 4 ∨ k = 5 ∨ k = 6 ∨ k = 7 := by omega
  rcases h with rfl | rfl | rfl | rfl | rfl | rfl | rfl | rfl <;> rfl
theorem tb0 : ∀ w, w < 32 → tb (NN 0) w = NN 0 := by decide
def rd0 (rd : T_Rd) (a : Int32) : T_Rd := ((Rd_tape rd), NN 0, NN 0, (-1 : Int32), (Rd_words rd), (Rd_sorts rd), (Rd_parts rd), (Rd_wantedPlaces rd), a, NN 0, (Rd_token rd), (Rd_value rd), (Rd_place rd), NN 0, NN 0)
def m00 (v : T_M) (a1 : Int32) : T_M := ((M_tp v), (NN 0, a1, NN 0, (M_place (M_rd v)), (M_sort (M_rd v)), (M_value (M_rd v)), NN 0, (M_faultPlace (M_rd v)), (M_isTold (M_rd v)), (M_hasData (M_rd v))), (M_lf v), (M_cd v), (M_rn v), (M_ex v), (M_im v), (M_al v), (M_thrown v))
/-- before the first line -/
theorem text_start {T : Nat → Nat} {n : Nat} {rd : T_Rd} {m : T_M} (pr : T_Pg) (hn : n ≤ 700) (hT : ∀ j, j < n → T j < 256 ∧ Rd_tape rd j &&& NN 255 = NN (T j) ∧ M_tape (M_tp m) j = NN (T j)) :
    ∃ pr1 rd1 m1 m2 pl q, f_Pg_clear pr = some pr1 ∧ f_Rd_advance (rd0 rd (NN n)) = some rd1 ∧ f_M_freshText (m00 m (NN n)) = some m1 ∧ f_M_token m1 = some m2 ∧ AT T n rd1 m2 pl q ∧ DR rd1 pr1 m2 0 0 ∧ Pg_lines pr1 = NN 0 ∧ FX (rd0 rd (NN n)) rd1 (m00 m (NN n)) m2 ∧
      (∀ k, k < 10 → M_number (M_cd m2) (10 + k) = NN (drule k)) ∧ ∀ a, a < 32 → M_data (M_cd m2) (32 + a) = NN 0 := by
  obtain ⟨C, D, e1, c1, c2⟩ := C_pgclear pr
  obtain ⟨ft, fh, D2, e2, d1, d2, d3⟩ := M_fresh1 (m00 m (NN n))
  obtain ⟨N, hN⟩ : ∃ N, N = frN (M_number (M_cd (m00 m (NN n)))) := ⟨_, rfl⟩
  rw [← hN] at e2
  obtain ⟨m1, hm1⟩ : ∃ m1, m1 = fM (m00 m (NN n)) N ft fh D2 := ⟨_, rfl⟩
  rw [← hm1] at e2
  have hC : TC (rd0 rd (NN n)) n T := ⟨rfl, fun j hj => ⟨(hT j hj).1, (hT j hj).2.1⟩⟩
  have hM : TMm m1 n T := by rw [hm1]; exact ⟨rfl, fun j hj => ⟨(hT j hj).1, (hT j hj).2.2⟩⟩
  obtain ⟨q, pl, tok, sort, fv, fw, s1, s2, s3, s4, s5, s6⟩ := TK_all (j := 0) hn (fun j hj => (hT j hj).1) (by omega)
  have b1 := s4 (rd0 rd (NN n)) hC rfl
  have b2 := s5 m1 hM (by rw [hm1]; rfl)
  have hNat : ∀ k, k < 10 → N (10 + k) = NN (drule k) := fun k hk => by rw [hN]; exact frN_at _ k hk
  have hNlow : ∀ k, k < 10 → N k = M_number (M_cd m) k := fun k hk => by rw [hN]; exact frN_low _ k hk
  have f1 : M_number (M_cd m1) = N := by rw [hm1]; rfl
  have f2 : M_data (M_cd m1) = D2 := by rw [hm1]; rfl
  have f3 : M_lines (M_rd m1) = NN 0 := by rw [hm1]; rfl
  have f4 : M_isTold (M_rd m1) = ft := by rw [hm1]; rfl
  have f5 : M_hasData (M_rd m1) = fh := by rw [hm1]; rfl
  have f6 : M_fault (M_rd m1) = NN 0 := by rw [hm1]; rfl
  have f7 : M_tp m1 = M_tp m := by rw [hm1]; rfl
  have f8 : M_lf m1 = M_lf m ∧ M_rn m1 = M_rn m ∧ M_ex m1 = M_ex m ∧ M_im m1 = M_im m ∧ M_al m1 = M_al m ∧ M_thrown m1 = M_thrown m := by rw [hm1]; exact ⟨rfl, rfl, rfl, rfl, rfl, rfl⟩
  have f9 : LOW (M_cd m) (M_cd m1) := by
    refine ⟨fun k hk => by rw [f1]; exact hNlow k hk, ?_, ?_, fun a ha => by rw [f2]; exact (d3 a ha).2⟩
    · rw [hm1]; exact fun p hp => ⟨rfl, rfl, rfl, rfl, rfl⟩
    · rw [hm1]; exact fun k hk => ⟨rfl, rfl⟩
  obtain ⟨P, hP⟩ : ∃ P, P = pg0 pr C D := ⟨_, rfl⟩
  have e1 : f_Pg_clear pr = some P := by rw [hP]; exact e1
  have g1 : Pg_size P = NN 0 := by rw [hP]; rfl
  have g2 : Pg_nameCount P = NN 0 := by rw [hP]; rfl
  have g3 : Pg_lines P = NN 0 := by rw [hP]; rfl
  have g4 : ∀ k, k < 8 → Pg_rules P k = NN (drule k) := by rw [hP]; exact pg0_rules pr C D
  have g5 : Pg_data P = D := by rw [hP]; rfl
  have g6 : Pg_code P = C := by rw [hP]; rfl
  obtain ⟨R, hR⟩ : ∃ R, R = rd0 rd (NN n) := ⟨_, rfl⟩
  have i1 : Rd_toldRules R = NN 0 := by rw [hR]; rfl
  have i2 : Rd_toldData R = NN 0 := by rw [hR]; rfl
  have i3 : Rd_fault R = NN 0 := by rw [hR]; rfl
  have i4 : Rd_limit R = NN n := by rw [hR]; rfl
  have i5 : Rd_tape R = Rd_tape rd := by rw [hR]; rfl
  rw [← hR] at b1 ⊢
  obtain ⟨rd1, hrd1⟩ : ∃ rd1, rd1 = tR R (NN q) tok (fv (Rd_value R)) (NN pl) := ⟨_, rfl⟩
  obtain ⟨m2, hm2⟩ : ∃ m2, m2 = tM m1 (NN q) (NN pl) sort (fw (M_value (M_rd m1))) := ⟨_, rfl⟩
  rw [← hrd1] at b1
  rw [← hm2] at b2
  have hcd : M_cd m2 = M_cd m1 := by rw [hm2]; rfl
  have hAT : AT T n rd1 m2 pl q := by
    rw [hrd1, hm2]
    refine ⟨i3, f6, ⟨i4, hM.1, hn, fun j hj => ⟨(hT j hj).1, ?_, (hM.2 j hj).2⟩⟩, s2, s3, rfl, rfl, rfl, rfl, s6 _ _⟩
    exact (congrArg (· &&& NN 255) (congrFun i5 j)).trans (hT j hj).2.1
  have hl : M_lines (M_rd m2) = NN 0 := by rw [hm2]; exact f3
  have hit : M_isTold (M_rd m2) = ft := by rw [hm2]; exact f4
  have hhd : M_hasData (M_rd m2) = fh := by rw [hm2]; exact f5
  have htr : Rd_toldRules rd1 = NN 0 := by rw [hrd1]; exact i1
  have htd : Rd_toldData rd1 = NN 0 := by rw [hrd1]; exact i2
  have hDR : DR rd1 P m2 0 0 := by
    unfold DR
    rw [hcd, f1, f2, hl, hit, hhd, g1, g2, g3, g5, g6, htr, htd]
    refine ⟨⟨rfl, hNat 8 (by omega), by omega⟩, ⟨rfl, hNat 9 (by omega), by omega⟩, rfl, fun k hk => ⟨drule k, bdR_drule k hk, g4 k hk, hNat k (by omega)⟩, fun a ha => (c2 a ha).trans (d3 a ha).1.symm, fun k hk => by omega, fun p _ hp => c1 p hp, fun p hp => by omega, fun w hw => ?_, fun w hw => Or.inl (d1 w hw), fun a ha => (tb0 a ha).trans (d2 a ha).symm, fun a ha => Or.inl (d2 a ha)⟩
    by_cases g : w < 5
    · rw [if_pos g]; exact (tb0 w (by omega)).trans (d1 w g).symm
    · rw [if_neg g]; exact tb0 w (by omega)
  refine ⟨P, rd1, m1, m2, pl, q, e1, b1, e2, b2, hAT, hDR, g3, ⟨by rw [hrd1]; exact ⟨rfl, rfl, rfl, rfl, rfl⟩, ?_, ?_⟩, ?_, ?_⟩
  · rw [hm2]
    exact ⟨f7, f8.1, f8.2.1, f8.2.2.1, f8.2.2.2.1, f8.2.2.2.2.1, f8.2.2.2.2.2⟩
  · rw [hcd]; exact f9
  · rw [hcd, f1]; exact hNat
  · rw [hcd, f2]; exact fun a ha => (d3 a ha).1
