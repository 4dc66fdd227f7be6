/-! a TEXT is read, to its end -/
def SMM (m m' : T_M) : Prop := M_tp m' = M_tp m ∧ M_lf m' = M_lf m ∧ M_rn m' = M_rn m ∧ M_ex m' = M_ex m ∧ M_im m' = M_im m ∧ M_al m' = M_al m ∧ M_thrown m' = M_thrown m
def SRR (rd rd' : T_Rd) : Prop := Rd_tape rd' = Rd_tape rd ∧ Rd_filled rd' = NN 0 ∧ Rd_words rd' = Rd_words rd ∧ Rd_sorts rd' = Rd_sorts rd
def FEQ (rd : T_Rd) (m : T_M) : Prop := ∃ f p, f ≠ 0 ∧ f < 10 ∧ p ≤ 700 ∧ Rd_fault rd = NN f ∧ M_fault (M_rd m) = NN f ∧ Rd_faultPlace rd = NN p ∧ M_faultPlace (M_rd m) = NN p
theorem names_bad {rd : T_Rd} {pr : T_Pg} {m : T_M} (h : FEQ rd m) : f_Rd_findNames rd pr = some (rd, t3P pr (Pg_third pr)) ∧ f_M_readText_L52 (fun v13 => some v13) LF (NN 0) m = some m := by
  obtain ⟨f, p, f1, f2, f3, f4, f5, f6, f7⟩ := h
  obtain ⟨q, hq⟩ : ∃ q, LF = q + 1 := ⟨LF - 1, by have := lf_big (d := 10) (by decide); omega⟩
  have e8 : f_M_reading m (8 : Int32) = some (M_number (M_cd m) 18) := M_reading1 (k := 8) (by decide)
  constructor
  · unfold f_Rd_findNames
    rw [hq, f_Rd_findNames_L2]
    by_cases g : Pg_size pr ≤ NN 0
    · refine (if_pos g).trans ?_
      rfl
    · refine (if_neg g).trans ?_
      repeat first | (with_reducible refine s_nmj1 ?_) | (with_reducible refine s_nmj2 ?_) | ((with_reducible refine s_nm ?_); intro y_ hy_; (try simp (disch := omega) only [n_lit, n_add, n_mul, n_sub, n_tn, n_ltT, n_ltF, n_leT, n_leF, n_eqT, n_eqF, n_div, n_ixT, n_ixF, n_not, n_md, n_dec, n_and1, n_and3, n_and7, n_and15, n_and31, n_and63, Nat.mod_eq_of_lt, Nat.zero_add, Nat.add_zero, Nat.zero_mul, Nat.sub_zero, not_false_eq_true, not_true_eq_false, upd_at, upd_ne, f4] at hy_); subst hy_) | ((with_reducible refine s_pos ?_ ?_); · simp (disch := omega) only [n_lit, n_add, n_mul, n_sub, n_tn, n_ltT, n_ltF, n_leT, n_leF, n_eqT, n_eqF, n_div, n_ixT, n_ixF, n_not, n_md, n_dec, n_and1, n_and3, n_and7, n_and15, n_and31, n_and63, Nat.mod_eq_of_lt, Nat.zero_add, Nat.add_zero, Nat.zero_mul, Nat.sub_zero, not_false_eq_true, not_true_eq_false, upd_at, upd_ne, f4]) | ((with_reducible refine s_neg ?_ ?_); · simp (disch := omega) only [n_lit, n_add, n_mul, n_sub, n_tn, n_ltT, n_ltF, n_leT, n_leF, n_eqT, n_eqF, n_div, n_ixT, n_ixF, n_not, n_md, n_dec, n_and1, n_and3, n_and7, n_and15, n_and31, n_and63, Nat.mod_eq_of_lt, Nat.zero_add, Nat.add_zero, Nat.zero_mul, Nat.sub_zero, not_false_eq_true, not_true_eq_false, upd_at, upd_ne, f4]) 
      rfl
  · rw [hq, f_M_readText_L52]
    refine s_bd e8 ?_
    by_cases g : M_number (M_cd m) 18 ≤ NN 0
    · exact if_pos g
    · refine (if_neg g).trans ?_
      repeat first | (with_reducible refine s_nmj1 ?_) | (with_reducible refine s_nmj2 ?_) | ((with_reducible refine s_nm ?_); intro y_ hy_; (try simp (disch := omega) only [n_lit, n_add, n_mul, n_sub, n_tn, n_ltT, n_ltF, n_leT, n_leF, n_eqT, n_eqF, n_div, n_ixT, n_ixF, n_not, n_md, n_dec, n_and1, n_and3, n_and7, n_and15, n_and31, n_and63, Nat.mod_eq_of_lt, Nat.zero_add, Nat.add_zero, Nat.zero_mul, Nat.sub_zero, not_false_eq_true, not_true_eq_false, upd_at, upd_ne, f5] at hy_); subst hy_) | ((with_reducible refine s_pos ?_ ?_); · simp (disch := omega) only [n_lit, n_add, n_mul, n_sub, n_tn, n_ltT, n_ltF, n_leT, n_leF, n_eqT, n_eqF, n_div, n_ixT, n_ixF, n_not, n_md, n_dec, n_and1, n_and3, n_and7, n_and15, n_and31, n_and63, Nat.mod_eq_of_lt, Nat.zero_add, Nat.add_zero, Nat.zero_mul, Nat.sub_zero, not_false_eq_true, not_true_eq_false, upd_at, upd_ne, f5]) | ((with_reducible refine s_neg ?_ ?_); · simp (disch := omega) only [n_lit, n_add, n_mul, n_sub, n_tn, n_ltT, n_ltF, n_leT, n_leF, n_eqT, n_eqF, n_div, n_ixT, n_ixF, n_not, n_md, n_dec, n_and1, n_and3, n_and7, n_and15, n_and31, n_and63, Nat.mod_eq_of_lt, Nat.zero_add, Nat.add_zero, Nat.zero_mul, Nat.sub_zero, not_false_eq_true, not_true_eq_false, upd_at, upd_ne, f5]) 
      rfl
theorem TXT_of {rd : T_Rd} {pr : T_Pg} {m : T_M} {sz nc ln : Nat} {f F : Nat → Int32} (h : DR rd pr m sz nc) (hN : NMI pr m sz sz f F) (hl : Pg_lines pr = NN ln) (hl2 : ln ≤ 700)
    (h0 : ln = 0 → sz = 0 ∧ nc = 0 ∧ (∀ k, k < 10 → M_number (M_cd m) (10 + k) = NN (drule k)) ∧ ∀ a, a < 32 → M_data (M_cd m) (32 + a) = NN 0) : TXT (t3P pr f) (sC m (toC (M_cd m) F)) := by
  obtain ⟨h1, h2, h3, h4, h5, h6, h7, h8, -⟩ := h
  refine ⟨sz, nc, ln, h1, h2, ⟨hl, h3.symm.trans hl, hl2⟩, h4, h5, h6, h7, fun p hp => ?_, h0⟩
  obtain ⟨c, a, b, d, w1, w2, w3, w4, w5, w6, w7, w8, w9⟩ := h8 p hp
  have hN2 := hN.2 p c hp w1.1 w2
  by_cases g : c < 14
  · exact ⟨c, a, b, d, w1, w2, w3, w4, (hN2.1 g).trans (w8 g).1, w5, w6, w7, fun _ => (w8 g).2, fun q => by omega⟩
  · obtain ⟨t, t1, t2, t3⟩ := hN2.2.2 (by omega) hp
    refine ⟨c, a, b, t, ?_, w2, w3, w4, t2, w5, w6, w7, fun q => by omega, fun _ => t3⟩
    obtain ⟨v1, v2, v3, v4, v5, v6, v7, v8, v9, v10, v11⟩ := w1
    exact ⟨v1, v2, v3, t1, v5, fun q => by omega, fun q => by omega, fun q => by omega, fun q => by omega, fun q => by omega, v11⟩
theorem read_text {T : Nat → Nat} {n : Nat} {rd : T_Rd} {m : T_M} (pr : T_Pg) (hn : n ≤ 700) (hT : ∀ j, j < n → T j < 256 ∧ Rd_tape rd j &&& NN 255 = NN (T j) ∧ M_tape (M_tp m) j = NN (T j)) (hwd : WD rd) (hsd : SD rd) :
    ∃ rd' pr' m', f_Rd_readText rd pr (NN n) = some (rd', pr') ∧ f_M_readText m (NN n) = some m' ∧ SRR rd rd' ∧ SMM m m' ∧ LOW (M_cd m) (M_cd m') ∧
      ((Rd_fault rd' = NN 0 ∧ M_fault (M_rd m') = NN 0 ∧ Rd_faultPlace rd' = (-1 : Int32) ∧ TXT pr' m') ∨ FEQ rd' m') := by
  obtain ⟨pr1, rd1, m1, m2, pl, q, e1, e2, e3, e4, hA, hD, hL, hF, z1, z2⟩ := text_start pr hn hT
  have e2' : f_Rd_advance ((Rd_tape rd), (0 : Int32), (0 : Int32), (-1 : Int32), (Rd_words rd), (Rd_sorts rd), (Rd_parts rd), (Rd_wantedPlaces rd), NN n, (0 : Int32), (Rd_token rd), (Rd_value rd), (Rd_place rd), (0 : Int32), (0 : Int32)) = some rd1 := e2
  have e3' : f_M_freshText ((M_tp m), ((0 : Int32), NN n, (0 : Int32), (M_place (M_rd m)), (M_sort (M_rd m)), (M_value (M_rd m)), (0 : Int32), (M_faultPlace (M_rd m)), (M_isTold (M_rd m)), (M_hasData (M_rd m))), (M_lf m), (M_cd m), (M_rn m), (M_ex m), (M_im m), (M_al m), (M_thrown m)) = some m1 := e3
  have hwd1 : WD rd1 := fun k hk => (congrFun hF.1.2.2.1 k).trans (hwd k hk)
  have hsd1 : SD rd1 := fun k hk => (congrFun hF.1.2.2.2.1 k).trans (hsd k hk)
  have hLF := lf_big (d := 1000) (by decide)
  obtain ⟨rd2, pr2, m3, sz, nc, a1, a2, a3, a4⟩ := text_loop (fun (v8 : T_Pg) (v9 : T_Rd) => (bd2 (f_Rd_findNames v9 v8) fun (v19 : T_Rd) (v20 : T_Pg) => (some (v19, v20)))) (fun (v6 : T_M) => (f_M_readText_L52 (fun (v13 : T_M) => (some v13)) LF (0 : Int32) v6)) n pl q 0 rd1 pr1 m2 0 0 LF LF (by omega) (by omega) (by omega) hA hwd1 hsd1 hD (by omega) (by omega) hL
  have hF2 := FX_trans hF a3
  have cC : ∀ R, (bd2 (f_Rd_findNames rd2 pr2) fun (v19 : T_Rd) (v20 : T_Pg) => (some (v19, v20))) = R → f_Rd_readText rd pr (NN n) = R := by
    intro R hR
    unfold f_Rd_readText
    refine s_bd e1 ?_
    refine s_bd e2' ?_
    exact a1.trans hR
  have cM : ∀ R, f_M_readText_L52 (fun (v13 : T_M) => (some v13)) LF (0 : Int32) m3 = R → f_M_readText m (NN n) = R := by
    intro R hR
    unfold f_M_readText
    refine s_bd e3' ?_
    refine s_bd e4 ?_
    exact a2.trans hR
  have sR : ∀ x, Rd_tape x = Rd_tape rd2 → Rd_filled x = Rd_filled rd2 → Rd_words x = Rd_words rd2 → Rd_sorts x = Rd_sorts rd2 → SRR rd x := fun x x1 x2 x3 x4 => ⟨x1.trans hF2.1.1, x2.trans hF2.1.2.1, x3.trans hF2.1.2.2.1, x4.trans hF2.1.2.2.2.1⟩
  have sM : SMM m m3 := hF2.2.1
  have sL : LOW (M_cd m) (M_cd m3) := hF2.2.2
  rcases a4 with ⟨b1, b2, b3, ln, b4, b5, b6, b7⟩ | hB
  · have i0 : NMI pr2 m3 sz 0 (Pg_third pr2) (M_codeTo (M_cd m3)) := ⟨fun _ _ => rfl, fun p c hp hc e => ⟨fun _ => rfl, fun _ _ => rfl, fun _ h => by omega⟩⟩
    rcases names_loop b3 b1 b2 (fun (f4 : (Nat → Int32)) (v5 : T_Rd) => (some (v5, ((Pg_code pr2), (Pg_first pr2), (Pg_second pr2), f4, (Pg_rules pr2), (Pg_data pr2), (Pg_names pr2), (Pg_namedPlaces pr2), (Pg_nameCount pr2), (Pg_size pr2), (Pg_lines pr2))))) (fun (v13 : T_M) => (some v13)) sz 0 LF LF (Pg_third pr2) (M_codeTo (M_cd m3)) (by omega) (by have := b3.1.2.2; omega) (by have := b3.1.2.2; omega) i0 with ⟨f, F, c1, c2, c3⟩ | ⟨f, F, p, c0, c1, c2, c3⟩
    · have c1' : f_Rd_findNames rd2 pr2 = some (rd2, t3P pr2 f) := c1
      have c2' : f_M_readText_L52 (fun (v13 : T_M) => (some v13)) LF (0 : Int32) m3 = some (sC m3 (toC (M_cd m3) F)) := c2
      have r1 : f_Rd_readText rd pr (NN n) = some (rd2, t3P pr2 f) := cC _ (by rw [c1']; rfl)
      refine ⟨rd2, t3P pr2 f, sC m3 (toC (M_cd m3) F), r1, cM _ c2', sR _ rfl rfl rfl rfl, sM, ?_, Or.inl ⟨b1, b2, readText_fp r1 b1, TXT_of b3 c3 b6 b5 (fun h => ?_)⟩⟩
      · exact ⟨sL.1, fun p hp => ⟨(sL.2.1 p hp).1, (sL.2.1 p hp).2.1, (sL.2.1 p hp).2.2.1, (sL.2.1 p hp).2.2.2.1, (c3.1 p hp).trans (sL.2.1 p hp).2.2.2.2⟩, sL.2.2.1, sL.2.2.2⟩
      · obtain ⟨y1, y2, y3⟩ := b7 h
        subst y2 y3
        refine ⟨n_inj (by have := b3.1.2.2; omega) (by omega) (b3.1.1.symm.trans hD.1.1), n_inj (by have := b3.2.1.2.2; omega) (by omega) (b3.2.1.1.symm.trans hD.2.1.1), z1, z2⟩
    · have c1' : f_Rd_findNames rd2 pr2 = some (wR rd2 (NN 4) (NN p), t3P pr2 f) := c1
      have c2' : f_M_readText_L52 (fun (v13 : T_M) => (some v13)) LF (0 : Int32) m3 = some (wM (sC m3 (toC (M_cd m3) F)) (NN 4) (NN p)) := c2
      refine ⟨wR rd2 (NN 4) (NN p), t3P pr2 f, _, cC _ (by rw [c1']; rfl), cM _ c2', sR _ rfl rfl rfl rfl, sM, ?_, Or.inr ⟨4, p, by omega, by omega, c0, rfl, rfl, rfl, rfl⟩⟩
      exact ⟨sL.1, fun p hp => ⟨(sL.2.1 p hp).1, (sL.2.1 p hp).2.1, (sL.2.1 p hp).2.2.1, (sL.2.1 p hp).2.2.2.1, (c3 p hp).trans (sL.2.1 p hp).2.2.2.2⟩, sL.2.2.1, sL.2.2.2⟩
  · obtain ⟨c1, c2⟩ := names_bad (pr := pr2) hB
    exact ⟨rd2, t3P pr2 (Pg_third pr2), m3, cC _ (by rw [c1]; rfl), cM _ c2, sR _ rfl rfl rfl rfl, sM, sL, Or.inr hB⟩
