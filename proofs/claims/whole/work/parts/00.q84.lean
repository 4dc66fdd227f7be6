/-! LINES: RULES, class and model -/
theorem set_good {T : Nat → Nat} {n : Nat} {rd rd3 : T_Rd} {pr : T_Pg} {m m3 : T_M} {w pl3 q3 E sz nc : Nat} (hw : w < 5) (hD : DR rd pr m sz nc) (hsd : SD rd) (hC : f_Rd_readLine rd pr = KL pr (NN w) rd3) (hM : f_M_readLine m = ML m3) (hA : AH T n rd3 m3 pl3 q3) (hE : E ≤ pl3) (fr : FR1 rd rd3) (hwa : Rd_wantedPlaces rd3 = Rd_wantedPlaces rd) (htd : Rd_toldData rd3 = Rd_toldData rd)
    (fm : FM1 (oM m w) m3) (hhd : M_hasData (M_rd m3) = M_hasData (M_rd m)) (N : Nat → Int32) (hcd : M_cd m3 = nC (M_cd m) N) (hN : ∀ j, j < 10 ∨ 18 ≤ j → N j = M_number (M_cd m) j) (hR : ∀ k, k < 8 → ∃ r, bdR k r ∧ setR w (Pg_rules pr) (Rd_parts rd3) k = NN r ∧ N (10 + k) = NN r) : LOK T n rd pr m E sz nc ∨ LBAD T n rd pr m := by
  obtain ⟨⟨d1, d2, d3⟩, d4, d5, d6, d7, d8, d9, d10, d11, d12, d13, d14⟩ := hD
  obtain ⟨f1, f2, f3, f4, f5, f6⟩ := id fr
  obtain ⟨m1', m2', m3', m4', m5', m6', m7', m8', m9'⟩ := id fm
  have hL : LOW (M_cd m) (M_cd m3) := by
    rw [hcd]
    exact ⟨fun k hk => hN k (Or.inl hk), fun p hp => ⟨rfl, rfl, rfl, rfl, rfl⟩, fun k hk => ⟨rfl, rfl⟩, fun a ha => rfl⟩
  refine good_end hC hM hA hE ⟨⟨f1, f2, f3, f4, f5⟩, ⟨m1', m2', m3', m4', m5', m6', m7'⟩, hL⟩ (fun v m1 a1 a2 a3 a4 a5 a6 a7 => ?_)
  obtain ⟨g1, g2, g3, g4, g5, g6⟩ := a1
  have hsv : SD v := fun i hi => by rw [g4, f4]; exact hsd i hi
  refine ⟨_, _, C_takeSet hsv hw, rfl, rfl, rfl, rfl, rfl, rfl, rfl, ?_, rfl⟩
  have e1 : M_cd (lM m1) = nC (M_cd m) N := a6.trans hcd
  have e2 : M_isTold (M_rd (lM m1)) = upd (M_isTold (M_rd m)) w (NN 1) := (a5.2.2.2.2.2.2.2.2).trans m9'
  have e3 : M_hasData (M_rd (lM m1)) = M_hasData (M_rd m) := a7.trans hhd
  have e4 : M_lines (M_rd (lM m1)) = M_lines (M_rd m) + NN 1 := by
    show M_lines (M_rd m1) + NN 1 = _
    rw [a5.2.2.2.2.2.2.2.1, m8']
    rfl
  have e5 : Rd_toldRules v = Rd_toldRules rd := g6.trans f6
  unfold DR
  rw [e1, e2, e3, e4]
  refine ⟨⟨d1, (hN 18 (Or.inr (by omega))).trans d2, d3⟩, ⟨d4.1, (hN 19 (Or.inr (by omega))).trans d4.2.1, d4.2.2⟩, ?_, fun k hk => ?_, d7, d8, d9, fun p hp => ?_, fun k hk => ?_, fun k hk => ?_, ?_, d14⟩
  · show Pg_lines pr + NN 1 = _; rw [d5]
  · obtain ⟨r, r1, r2, r3⟩ := hR k hk
    refine ⟨r, r1, ?_, r3⟩
    show setR w (Pg_rules pr) (Rd_parts v) k = _
    rw [a2]; exact r2
  · obtain ⟨c, a, b, d, y1, y2, y3, y4, y5, y6, y7, y8, y9⟩ := d10 p hp
    refine ⟨c, a, b, d, y1, y2, y3, y4, y5, y6, y7, y8, fun hc => ?_⟩
    obtain ⟨z1, ww, z2, z3, z4⟩ := y9 hc
    refine ⟨z1, ww, z2, ?_, z4⟩
    show Rd_wantedPlaces v p = _
    rw [a3, hwa]; exact z3
  · show tb (Rd_toldRules v ||| (NN 1 <<< NN w)) k = _
    rw [tb_or (by omega) (by omega), e5]
    by_cases q : k = w
    · rw [if_pos q, if_pos (by omega), upd_at q]
    · rw [if_neg q, d11 k hk]
      by_cases q2 : k < 5
      · rw [if_pos q2, if_pos q2, upd_ne q]
      · rw [if_neg q2, if_neg q2]
  · by_cases q : k = w
    · exact Or.inr (upd_at q)
    · rw [upd_ne q]; exact d12 k hk
  · intro k hk
    show tb (Rd_toldData v) k = _
    rw [a4, htd]; exact d13 k hk
theorem LOW_n {c : T_Mc} {N : Nat → Int32} (h : ∀ k, k < 10 → N k = M_number c k) : LOW c (nC c N) := ⟨h, fun _ _ => ⟨rfl, rfl, rfl, rfl, rfl⟩, fun _ _ => ⟨rfl, rfl⟩, fun _ _ => rfl⟩
/-- RULES of one number -/
def ONE (w s lo hi i : Nat) : Prop := (w = 0 ∧ s = 115 ∧ lo = 1 ∧ hi = 40 ∧ i = 0) ∨ (w = 3 ∧ s = 116 ∧ lo = 1 ∧ hi = 9 ∧ i = 6) ∨ (w = 4 ∧ s = 118 ∧ lo = 0 ∧ hi = 99999 ∧ i = 7)
theorem M_lineOne {m v44 v47 : T_M} {w s lo hi i : Nat} {r : Int32} (h : ONE w s lo hi i) (h0 : M_sort (M_rd m) = NN 0) (h1 : M_value (M_rd m) = NN w) (eO : f_M_once m (NN w) = some v44) (eN : f_M_numeral v44 (NN lo) (NN hi) = some (r, v47)) : f_M_readLine m = ML (sN v47 i r) := by
  have eR := M_reads1 (m := v47) (k := i) (by rcases h with h | h | h <;> omega) r
  rcases h with ⟨rfl, rfl, rfl, rfl, rfl⟩ | ⟨rfl, rfl, rfl, rfl, rfl⟩ | ⟨rfl, rfl, rfl, rfl, rfl⟩
  · have eO' : f_M_once m (0 : Int32) = some v44 := eO
    have eN' : f_M_numeral v44 (1 : Int32) (40 : Int32) = some (r, v47) := eN
    have eR' : f_M_reads v47 (0 : Int32) r = some (sN v47 0 r) := eR
    unfold f_M_readLine
    repeat first | (with_reducible refine s_nmj1 ?_) | (with_reducible refine s_nmj2 ?_) | ((with_reducible refine s_nm ?_); intro y_ hy_; (try simp (disch := omega) only [n_lit, n_add, n_mul, n_sub, n_tn, n_ltT, n_ltF, n_leT, n_leF, n_eqT, n_eqF, n_div, n_ixT, n_ixF, n_not, n_md, n_dec, n_and1, n_and3, n_and7, n_and15, n_and31, n_and63, Nat.mod_eq_of_lt, Nat.zero_add, Nat.add_zero, Nat.zero_mul, Nat.sub_zero, not_false_eq_true, not_true_eq_false, upd_at, upd_ne, h0, h1] at hy_); subst hy_) | ((with_reducible refine s_pos ?_ ?_); · simp (disch := omega) only [n_lit, n_add, n_mul, n_sub, n_tn, n_ltT, n_ltF, n_leT, n_leF, n_eqT, n_eqF, n_div, n_ixT, n_ixF, n_not, n_md, n_dec, n_and1, n_and3, n_and7, n_and15, n_and31, n_and63, Nat.mod_eq_of_lt, Nat.zero_add, Nat.add_zero, Nat.zero_mul, Nat.sub_zero, not_false_eq_true, not_true_eq_false, upd_at, upd_ne, h0, h1]) | ((with_reducible refine s_neg ?_ ?_); · simp (disch := omega) only [n_lit, n_add, n_mul, n_sub, n_tn, n_ltT, n_ltF, n_leT, n_leF, n_eqT, n_eqF, n_div, n_ixT, n_ixF, n_not, n_md, n_dec, n_and1, n_and3, n_and7, n_and15, n_and31, n_and63, Nat.mod_eq_of_lt, Nat.zero_add, Nat.add_zero, Nat.zero_mul, Nat.sub_zero, not_false_eq_true, not_true_eq_false, upd_at, upd_ne, h0, h1])  | (with_reducible refine s_bd eO' ?_) | (with_reducible refine s_bd2 eN' ?_) | (with_reducible refine s_bd eR' ?_)
    rfl
  · have eO' : f_M_once m (3 : Int32) = some v44 := eO
    have eN' : f_M_numeral v44 (1 : Int32) (9 : Int32) = some (r, v47) := eN
    have eR' : f_M_reads v47 (6 : Int32) r = some (sN v47 6 r) := eR
    unfold f_M_readLine
    repeat first | (with_reducible refine s_nmj1 ?_) | (with_reducible refine s_nmj2 ?_) | ((with_reducible refine s_nm ?_); intro y_ hy_; (try simp (disch := omega) only [n_lit, n_add, n_mul, n_sub, n_tn, n_ltT, n_ltF, n_leT, n_leF, n_eqT, n_eqF, n_div, n_ixT, n_ixF, n_not, n_md, n_dec, n_and1, n_and3, n_and7, n_and15, n_and31, n_and63, Nat.mod_eq_of_lt, Nat.zero_add, Nat.add_zero, Nat.zero_mul, Nat.sub_zero, not_false_eq_true, not_true_eq_false, upd_at, upd_ne, h0, h1] at hy_); subst hy_) | ((with_reducible refine s_pos ?_ ?_); · simp (disch := omega) only [n_lit, n_add, n_mul, n_sub, n_tn, n_ltT, n_ltF, n_leT, n_leF, n_eqT, n_eqF, n_div, n_ixT, n_ixF, n_not, n_md, n_dec, n_and1, n_and3, n_and7, n_and15, n_and31, n_and63, Nat.mod_eq_of_lt, Nat.zero_add, Nat.add_zero, Nat.zero_mul, Nat.sub_zero, not_false_eq_true, not_true_eq_false, upd_at, upd_ne, h0, h1]) | ((with_reducible refine s_neg ?_ ?_); · simp (disch := omega) only [n_lit, n_add, n_mul, n_sub, n_tn, n_ltT, n_ltF, n_leT, n_leF, n_eqT, n_eqF, n_div, n_ixT, n_ixF, n_not, n_md, n_dec, n_and1, n_and3, n_and7, n_and15, n_and31, n_and63, Nat.mod_eq_of_lt, Nat.zero_add, Nat.add_zero, Nat.zero_mul, Nat.sub_zero, not_false_eq_true, not_true_eq_false, upd_at, upd_ne, h0, h1])  | (with_reducible refine s_bd eO' ?_) | (with_reducible refine s_bd2 eN' ?_) | (with_reducible refine s_bd eR' ?_)
    rfl
  · have eO' : f_M_once m (4 : Int32) = some v44 := eO
    have eN' : f_M_numeral v44 (0 : Int32) (99999 : Int32) = some (r, v47) := eN
    have eR' : f_M_reads v47 (7 : Int32) r = some (sN v47 7 r) := eR
    unfold f_M_readLine
    repeat first | (with_reducible refine s_nmj1 ?_) | (with_reducible refine s_nmj2 ?_) | ((with_reducible refine s_nm ?_); intro y_ hy_; (try simp (disch := omega) only [n_lit, n_add, n_mul, n_sub, n_tn, n_ltT, n_ltF, n_leT, n_leF, n_eqT, n_eqF, n_div, n_ixT, n_ixF, n_not, n_md, n_dec, n_and1, n_and3, n_and7, n_and15, n_and31, n_and63, Nat.mod_eq_of_lt, Nat.zero_add, Nat.add_zero, Nat.zero_mul, Nat.sub_zero, not_false_eq_true, not_true_eq_false, upd_at, upd_ne, h0, h1] at hy_); subst hy_) | ((with_reducible refine s_pos ?_ ?_); · simp (disch := omega) only [n_lit, n_add, n_mul, n_sub, n_tn, n_ltT, n_ltF, n_leT, n_leF, n_eqT, n_eqF, n_div, n_ixT, n_ixF, n_not, n_md, n_dec, n_and1, n_and3, n_and7, n_and15, n_and31, n_and63, Nat.mod_eq_of_lt, Nat.zero_add, Nat.add_zero, Nat.zero_mul, Nat.sub_zero, not_false_eq_true, not_true_eq_false, upd_at, upd_ne, h0, h1]) | ((with_reducible refine s_neg ?_ ?_); · simp (disch := omega) only [n_lit, n_add, n_mul, n_sub, n_tn, n_ltT, n_ltF, n_leT, n_leF, n_eqT, n_eqF, n_div, n_ixT, n_ixF, n_not, n_md, n_dec, n_and1, n_and3, n_and7, n_and15, n_and31, n_and63, Nat.mod_eq_of_lt, Nat.zero_add, Nat.add_zero, Nat.zero_mul, Nat.sub_zero, not_false_eq_true, not_true_eq_false, upd_at, upd_ne, h0, h1])  | (with_reducible refine s_bd eO' ?_) | (with_reducible refine s_bd2 eN' ?_) | (with_reducible refine s_bd eR' ?_)
    rfl
/-- what a RULE told already brings -/
theorem told_bad {T : Nat → Nat} {n : Nat} {rd : T_Rd} {pr : T_Pg} {m m3 : T_M} {pl q sz nc w : Nat} (hA : AT T n rd m pl q) (hwd : WD rd) (hD : DR rd pr m sz nc) (hw : w < 5) (h1 : Rd_token rd = NN 1) (h2 : Rd_value rd = NN (WP w)) (ht : M_isTold (M_rd m) w = NN 1) (hM : f_M_readLine m = ML m3) (hf : M_rd m3 = M_rd (oM (wM m (NN 3) (M_place (M_rd m))) w)) (hm : M_tp m3 = M_tp m ∧ M_lf m3 = M_lf m ∧ M_rn m3 = M_rn m ∧ M_ex m3 = M_ex m ∧ M_im m3 = M_im m ∧ M_al m3 = M_al m ∧ M_thrown m3 = M_thrown m) (hl : LOW (M_cd m) (M_cd m3)) : LBAD T n rd pr m := by
  have hb : tb (Rd_toldRules rd) w = NN 1 := by rw [hD.2.2.2.2.2.2.2.2.1 w (by omega), if_pos hw, ht]
  have hC := C_headBad (pr := pr) hwd (by omega : w < 25) h1 h2 hD.1.1 (Or.inl ⟨rfl, by omega, hb⟩)
  have hF : Rd_fault (pR (wR rd (NN 3) (Rd_place rd)) (z3 (Rd_parts rd))) = NN 3 := rfl
  have hbd := AT_bad hA (f := 3) (by omega)
  refine bad_end (y := NN w) (hC.trans (KL_bad hF (by omega)).symm) hM ?_ ⟨⟨rfl, rfl, rfl, rfl, rfl⟩, hm, hl⟩
  obtain ⟨b1, b2, f, p, b3, b4, b5, b6, b7, b8, b9⟩ := hbd
  refine ⟨⟨b1.1, ?_, b1.2.2.1, fun j hj => ?_⟩, b2, f, p, b3, b4, b5, b6, ?_, b8, ?_⟩
  · rw [hf]; exact b1.2.1
  · rw [hm.1]; exact b1.2.2.2 j hj
  · rw [hf]; exact b7
  · rw [hf]; exact b9
theorem line_one {T : Nat → Nat} {n : Nat} {rd : T_Rd} {pr : T_Pg} {m : T_M} {pl q sz nc w s lo hi i : Nat} (ho : ONE w s lo hi i) (hA : AT T n rd m pl q) (hwd : WD rd) (hsd : SD rd) (hD : DR rd pr m sz nc) (h1 : Rd_token rd = NN 1) (h2 : Rd_value rd = NN (WP w)) (h3 : M_sort (M_rd m) = NN 0) (h4 : M_value (M_rd m) = NN w) : LOK T n rd pr m pl sz nc ∨ LBAD T n rd pr m := by
  have hw : w < 5 := by rcases ho with h | h | h <;> omega
  have hi10 : i < 8 := by rcases ho with h | h | h <;> omega
  have hPL : PLN s lo hi := by rcases ho with ⟨-, rfl, rfl, rfl, -⟩ | ⟨-, rfl, rfl, rfl, -⟩ | ⟨-, rfl, rfl, rfl, -⟩; exact Or.inl ⟨rfl, rfl, rfl⟩; exact Or.inr (Or.inr (Or.inr (Or.inl ⟨rfl, rfl, rfl⟩))); exact Or.inr (Or.inr (Or.inr (Or.inr (Or.inl ⟨rfl, rfl, rfl⟩))))
  have hSS : SSB (3 * w + 0) = s ∧ SSB (3 * w + 1) = 32 ∧ SSB (3 * w + 2) = 32 := by rcases ho with ⟨rfl, rfl, -⟩ | ⟨rfl, rfl, -⟩ | ⟨rfl, rfl, -⟩ <;> exact ⟨rfl, rfl, rfl⟩
  obtain ⟨x1, x2, x3, x4, x5, x6, x7, x8, x9, x10⟩ := id hA
  rcases hD.2.2.2.2.2.2.2.2.2.1 w hw with ht | ht
  · have hA2 : AT T n rd (oM m w) pl q := hA
    obtain ⟨q', pl', sort', value', g1, g2, g3⟩ := AT_goOn hA2
    have eO := M_once0 hw ht g1
    have hA0 := g2 (pR rd (z3 (Rd_parts rd))) (TP_C x3) x6 x1
    have hb : tb (Rd_toldRules rd) w = NN 0 := by rw [hD.2.2.2.2.2.2.2.2.1 w (by omega), if_pos hw, ht]
    have hC0 := C_head (pr := pr) hwd (by omega : w < 25) h1 h2 hb hD.1.1 hD.1.2.2 (Or.inl (by omega))
    rcases num_step hA0 pr (w := w) (k := 0) (by omega) (by omega) ((hsd _ (by omega)).trans (by rw [hSS.1])) hPL with ⟨rd1, m1, V, pl1, q1, v1, v2, a1, a2, a3, a4, a5, a6, a7, a8, a9, a10, a11, a12⟩ | ⟨rd1, m1, a1, a2, a3, a4, a5, a6, a7⟩
    · have hs1 : SD rd1 := fun j hj => by rw [a6.2.2.2.1]; exact hsd j hj
      have k1 := cst_skip (pr := pr) (w := w) (k := 1) (v := rd1) (by omega) (by omega) ((hs1 _ (by omega)).trans (by rw [hSS.2.1]))
      have k2 := cst_skip (pr := pr) (w := w) (k := 2) (v := rd1) (by omega) (by omega) ((hs1 _ (by omega)).trans (by rw [hSS.2.2]))
      rw [a1, bd_some, k1, bd_some, k2, bd_some] at hC0
      have hM := M_lineOne ho h3 h4 eO a2
      refine set_good hw hD hsd hC0 hM a3 (by omega) a6 a9 a10 a7 a12 (upd (M_number (M_cd m)) (10 + i) (NN V)) ?_ (fun j hj => upd_ne (by omega)) (fun k hk => ?_)
      · show nC (M_cd m1) (upd (M_number (M_cd m1)) (10 + i) (NN V)) = _
        rw [a11]; rfl
      · obtain ⟨r, r1, r2, r3⟩ := hD.2.2.2.1 k hk
        have hp0 : Rd_parts rd1 0 = NN V := by rw [a8]; exact upd_at rfl
        by_cases qk : k = i
        · subst qk
          refine ⟨V, ?_, ?_, upd_at rfl⟩
          · rcases ho with ⟨rfl, rfl, rfl, rfl, rfl⟩ | ⟨rfl, rfl, rfl, rfl, rfl⟩ | ⟨rfl, rfl, rfl, rfl, rfl⟩ <;> refine ⟨?_, ?_, ?_, ?_, ?_, ?_⟩ <;> omega
          · unfold setR
            rcases ho with ⟨rfl, rfl, rfl, rfl, rfl⟩ | ⟨rfl, rfl, rfl, rfl, rfl⟩ | ⟨rfl, rfl, rfl, rfl, rfl⟩
            · rw [if_pos rfl, upd_at rfl, hp0]
            · rw [if_neg (by omega), if_neg (by omega), if_neg (by omega), if_pos rfl, upd_at rfl, hp0]
            · rw [if_neg (by omega), if_neg (by omega), if_neg (by omega), if_neg (by omega), upd_at rfl, hp0]
        · refine ⟨r, r1, ?_, (upd_ne (by omega)).trans r3⟩
          unfold setR
          rcases ho with ⟨rfl, rfl, rfl, rfl, rfl⟩ | ⟨rfl, rfl, rfl, rfl, rfl⟩ | ⟨rfl, rfl, rfl, rfl, rfl⟩
          · rw [if_pos rfl, upd_ne qk, r2]
          · rw [if_neg (by omega), if_neg (by omega), if_neg (by omega), if_pos rfl, upd_ne qk, r2]
          · rw [if_neg (by omega), if_neg (by omega), if_neg (by omega), if_neg (by omega), upd_ne qk, r2]
    · obtain ⟨f, hf, e1, e2⟩ := BD_fault a3
      rw [a1, bd_some, cst_bad e1 hf, bd_some, cst_bad e1 hf, bd_some] at hC0
      have hM := M_lineOne ho h3 h4 eO a2
      obtain ⟨f1, f2, f3, f4, f5, f6⟩ := a4
      obtain ⟨m1', m2', m3', m4', m5', m6', m7', m8', m9'⟩ := a5
      refine Or.inr (bad_end hC0 hM a3 ⟨⟨f1, f2, f3, f4, f5⟩, ⟨m1', m2', m3', m4', m5', m6', m7'⟩, ?_⟩)
      show LOW (M_cd m) (nC (M_cd m1) (upd (M_number (M_cd m1)) (10 + i) (NN lo)))
      rw [a6]
      exact LOW_n fun k hk => upd_ne (by omega)
  · have eO := M_once1 hw x2 ht
    have eN := (M_nahB (m := oM (wM m (NN 3) (M_place (M_rd m))) w) (f := 3) rfl (by omega) (NN lo) (NN hi)).2
    exact Or.inr (told_bad hA hwd hD hw h1 h2 ht (M_lineOne ho h3 h4 eO eN) rfl ⟨rfl, rfl, rfl, rfl, rfl, rfl, rfl⟩ (LOW_n fun k hk => upd_ne (by omega)))
