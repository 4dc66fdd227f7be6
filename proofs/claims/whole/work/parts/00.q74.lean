/-! the next TOKEN -/
theorem hs_pad (L : Nat → Nat) {len : Nat} (h : len ≤ 6) : hs L 1000 len * 2 ^ (30 - 5 * len) = hs L len 6 := by
  rcases (by omega : len = 0 ∨ len = 1 ∨ len = 2 ∨ len = 3 ∨ len = 4 ∨ len = 5 ∨ len = 6) with rfl | rfl | rfl | rfl | rfl | rfl | rfl <;> simp (decide := true) only [hs, dg, if_true, if_false] <;> omega
theorem dg_lt {L : Nat → Nat} {len i : Nat} (h : ∀ j, j < len → 97 ≤ L j ∧ L j ≤ 122) : dg L len i < 32 := by
  unfold dg
  split
  · next q => have := h i q; omega
  · omega
theorem hs_inj {f g : Nat → Nat} {m l : Nat} (hf : ∀ j, j < m → 97 ≤ f j ∧ f j ≤ 122) (hg : ∀ j, j < l → 97 ≤ g j ∧ g j ≤ 122) : ∀ i, hs f m i = hs g l i → ∀ j, j < i → dg f m j = dg g l j := by
  intro i
  induction i with
  | zero => intro _ j hj; omega
  | succ i ih =>
    intro h j hj
    have h1 := dg_lt (i := i) hf
    have h2 := dg_lt (i := i) hg
    simp only [hs] at h
    by_cases q : j = i
    · subst q; omega
    · exact ih (by omega) j (by omega)
theorem hs_congr {f g : Nat → Nat} {m : Nat} (h : ∀ j, j < m → f j = g j) : ∀ i, hs f m i = hs g m i := by
  intro i
  induction i with
  | zero => rfl
  | succ i ih =>
    simp only [hs]
    rw [ih]
    unfold dg
    by_cases q : i < m
    · rw [if_pos q, if_pos q, h i q]
    · rw [if_neg q, if_neg q]
theorem hs_lt {L : Nat → Nat} {len : Nat} (h : ∀ j, j < len → 97 ≤ L j ∧ L j ≤ 122) : hs L len 6 < 1073741824 := by
  have d0 := dg_lt (i := 0) h
  have d1 := dg_lt (i := 1) h
  have d2 := dg_lt (i := 2) h
  have d3 := dg_lt (i := 3) h
  have d4 := dg_lt (i := 4) h
  have d5 := dg_lt (i := 5) h
  simp only [hs]
  omega
theorem word_val {T : Nat → Nat} {p q : Nat} (hpq : p < q) (hs1 : ∀ j, p ≤ j → j < q → small T j) :
    (q - p ≤ 6 ∧ VW (fun j => T (p + j)) (q - p) = NN (hs (fun j => T (p + j)) (q - p) 6) ∧ hs (fun j => T (p + j)) (q - p) 6 < 1073741824 ∧ ∀ k, k < 25 → (hs (fun j => T (p + j)) (q - p) 6 = WP k ↔ MW T p q (cm k))) ∨
    (6 < q - p ∧ VW (fun j => T (p + j)) (q - p) = -NN 1 ∧ ∀ w, w < 25 → ¬ MW T p q w) := by
  have hL : ∀ j, j < q - p → 97 ≤ T (p + j) ∧ T (p + j) ≤ 122 := fun j hj => hs1 (p + j) (by omega) (by omega)
  by_cases g : q - p ≤ 6
  · refine Or.inl ⟨g, ?_, hs_lt hL, fun k hk => ⟨fun e => ?_, fun e => ?_⟩⟩
    · unfold VW
      rw [if_pos g, hs_pad _ g]
    · rw [WP_h k hk] at e
      have hw := cm_lt k hk
      have l6 := WL_6 _ hw
      have hd := hs_inj hL (WC_az _ hw) 6 e
      have hlen : q - p = WL (cm k) := by
        by_cases a : q - p < WL (cm k)
        · have := hd (q - p) (by omega)
          unfold dg at this
          rw [if_neg (by omega), if_pos a] at this
          have := WC_az _ hw _ a
          omega
        · by_cases b : WL (cm k) < q - p
          · have := hd (WL (cm k)) (by omega)
            unfold dg at this
            rw [if_pos b, if_neg (by omega)] at this
            have e1 : T (p + WL (cm k)) - 96 = 0 := this
            have := hL _ b
            omega
          · omega
      have l6' := l6.2.1
      refine ⟨by omega, fun i hi => ?_⟩
      have h1 := hd i (by omega)
      unfold dg at h1
      rw [if_pos (by omega), if_pos hi] at h1
      have h2 := hL i (by omega)
      have h3 := WC_az _ hw i hi
      have h4 : T (p + i) - 96 = WC (cm k) i - 96 := h1
      omega
    · rw [WP_h k hk, ← show q - p = WL (cm k) by have := e.1; omega]
      exact hs_congr (fun j hj => e.2 j (by have := e.1; omega)) 6
  · refine Or.inr ⟨by omega, if_neg g, fun w hw h => ?_⟩
    have := WL_6 w hw
    have := h.1
    omega
def tR (rd : T_Rd) (pos tok val place : Int32) : T_Rd := ((Rd_tape rd), (Rd_filled rd), (Rd_fault rd), (Rd_faultPlace rd), (Rd_words rd), (Rd_sorts rd), (Rd_parts rd), (Rd_wantedPlaces rd), (Rd_limit rd), pos, tok, val, place, (Rd_toldRules rd), (Rd_toldData rd))
def tM (m : T_M) (pos place sort value : Int32) : T_M := ((M_tp m), ((M_lines (M_rd m)), (M_size (M_rd m)), pos, place, sort, value, (M_fault (M_rd m)), (M_faultPlace (M_rd m)), (M_isTold (M_rd m)), (M_hasData (M_rd m))), (M_lf m), (M_cd m), (M_rn m), (M_ex m), (M_im m), (M_al m), (M_thrown m))
/-- the TOKEN at hand, from place to q -/
def TK (tok val sort value : Int32) (T : Nat → Nat) (n pl q : Nat) : Prop :=
  (pl = n ∧ tok = NN 0 ∧ sort = NN 4) ∨
  (∃ k, k < 25 ∧ tok = NN 1 ∧ val = NN (WP k) ∧ sort = NN 0 ∧ value = NN (cm k) ∧ q = pl + WL (cm k) ∧ pl < q ∧ (q = n ∨ ¬ small T q)) ∨
  (∃ V, V < 1073741824 ∧ tok = NN 1 ∧ val = NN V ∧ (∀ k, k < 25 → V ≠ WP k) ∧ sort = NN 1 ∧ value = NN V ∧ small T pl ∧ pl < q) ∨
  (tok = NN 1 ∧ val = -NN 1 ∧ sort = NN 5 ∧ pl < q) ∨
  (∃ W, W ≤ 999999 ∧ tok = NN 2 ∧ val = NN (min W 100000) ∧ sort = NN 2 ∧ value = NN W ∧ pl < q) ∨
  (tok = NN 3 ∧ sort = NN 3 ∧ pl < q) ∨ (tok = NN 4 ∧ sort = NN 5 ∧ pl < q)
theorem MW_one : ∀ w, w < 25 → ∀ u, u < 25 → WL w = WL u → (∀ i, i < 6 → WC w i = WC u i) → w = u := by decide
theorem WC_out : ∀ w, w < 25 → ∀ i, i < 6 → WL w ≤ i → WC w i = 0 := by decide
theorem MW_uniq {T : Nat → Nat} {p q w u : Nat} (hw : w < 25) (hu : u < 25) (h1 : MW T p q w) (h2 : MW T p q u) : w = u := by
  have e : WL w = WL u := by have := h1.1; have := h2.1; omega
  refine MW_one w hw u hu e (fun i hi => ?_)
  by_cases g : i < WL w
  · rw [← h1.2 i g, h2.2 i (by omega)]
  · rw [WC_out w hw i hi (by omega), WC_out u hu i hi (by omega)]
theorem VW0 (L : Nat → Nat) : VW L 0 = NN 0 := by
  unfold VW
  rw [if_pos (by omega)]
  simp only [hs, Nat.zero_mul]
theorem TK_all {n j : Nat} {T : Nat → Nat} (t3 : n ≤ 700) (t4 : ∀ j, j < n → T j < 256) (hj : j ≤ n) :
    ∃ (q pl : Nat) (tok sort : Int32) (fv fw : Int32 → Int32), j ≤ pl ∧ pl ≤ q ∧ q ≤ n ∧ (∀ rd, TC rd n T → Rd_position rd = NN j → f_Rd_advance rd = some (tR rd (NN q) tok (fv (Rd_value rd)) (NN pl))) ∧ (∀ m, TMm m n T → M_at (M_rd m) = NN j → f_M_token m = some (tM m (NN q) (NN pl) sort (fw (M_value (M_rd m))))) ∧ ∀ a b, TK tok (fv a) sort (fw b) T n pl q := by
  obtain ⟨pl, s1, s2, s3, s4, s5⟩ := skip_loop t3 t4 (n - j) j (by omega)
  have eM : ∀ v, TMm v n T → M_at (M_rd v) = NN pl → f_M_here v = some (sg T n pl) := fun v hv ha => M_hr hv.1 t3 hv.2 (by omega) ha
  have eC : ∀ v, TC v n T → f_Rd_signAt v (NN pl) = some (sg T n pl) := fun v hv => C_sa hv.1 t3 hv.2 (by omega)
  by_cases g : pl = n
  · rw [sg_ge (by omega)] at eM eC
    refine ⟨pl, pl, NN 0, NN 4, id, id, s1, by omega, by omega, ?_, ?_, fun _ _ => Or.inl ⟨g, rfl, rfl⟩⟩
    · intro rd hC hpos
      unfold f_Rd_advance
      rw [hpos]
      refine (s4 rd hC _ LF (lf_big (by omega))).trans ?_
      repeat first | (with_reducible refine s_nmj1 ?_) | (with_reducible refine s_nmj2 ?_) | ((with_reducible refine s_nm ?_); intro y_ hy_; (try simp (disch := omega) only [n_lit, n_add, n_mul, n_sub, n_tn, n_ltT, n_ltF, n_leT, n_leF, n_eqT, n_eqF, n_div, n_ixT, n_ixF, n_not, n_md, n_dec, n_and1, n_and3, n_and7, n_and15, n_and31, n_and63, Nat.mod_eq_of_lt, Nat.zero_add, Nat.add_zero, Nat.zero_mul, Nat.sub_zero, not_false_eq_true, not_true_eq_false, upd_at, upd_ne] at hy_); subst hy_) | ((with_reducible refine s_pos ?_ ?_); · simp (disch := omega) only [n_lit, n_add, n_mul, n_sub, n_tn, n_ltT, n_ltF, n_leT, n_leF, n_eqT, n_eqF, n_div, n_ixT, n_ixF, n_not, n_md, n_dec, n_and1, n_and3, n_and7, n_and15, n_and31, n_and63, Nat.mod_eq_of_lt, Nat.zero_add, Nat.add_zero, Nat.zero_mul, Nat.sub_zero, not_false_eq_true, not_true_eq_false, upd_at, upd_ne]) | ((with_reducible refine s_neg ?_ ?_); · simp (disch := omega) only [n_lit, n_add, n_mul, n_sub, n_tn, n_ltT, n_ltF, n_leT, n_leF, n_eqT, n_eqF, n_div, n_ixT, n_ixF, n_not, n_md, n_dec, n_and1, n_and3, n_and7, n_and15, n_and31, n_and63, Nat.mod_eq_of_lt, Nat.zero_add, Nat.add_zero, Nat.zero_mul, Nat.sub_zero, not_false_eq_true, not_true_eq_false, upd_at, upd_ne])  | ((with_reducible refine s_bd (eC _ ?_) ?_); · exact hC) | ((with_reducible refine s_pos ?_ ?_); · rfl)
      rfl
    · intro m hM hat
      unfold f_M_token
      rw [hat]
      refine (s5 m hM _ LF (lf_big (by omega))).trans ?_
      repeat first | (with_reducible refine s_nmj1 ?_) | (with_reducible refine s_nmj2 ?_) | ((with_reducible refine s_nm ?_); intro y_ hy_; (try simp (disch := omega) only [n_lit, n_add, n_mul, n_sub, n_tn, n_ltT, n_ltF, n_leT, n_leF, n_eqT, n_eqF, n_div, n_ixT, n_ixF, n_not, n_md, n_dec, n_and1, n_and3, n_and7, n_and15, n_and31, n_and63, Nat.mod_eq_of_lt, Nat.zero_add, Nat.add_zero, Nat.zero_mul, Nat.sub_zero, not_false_eq_true, not_true_eq_false, upd_at, upd_ne] at hy_); subst hy_) | ((with_reducible refine s_pos ?_ ?_); · simp (disch := omega) only [n_lit, n_add, n_mul, n_sub, n_tn, n_ltT, n_ltF, n_leT, n_leF, n_eqT, n_eqF, n_div, n_ixT, n_ixF, n_not, n_md, n_dec, n_and1, n_and3, n_and7, n_and15, n_and31, n_and63, Nat.mod_eq_of_lt, Nat.zero_add, Nat.add_zero, Nat.zero_mul, Nat.sub_zero, not_false_eq_true, not_true_eq_false, upd_at, upd_ne]) | ((with_reducible refine s_neg ?_ ?_); · simp (disch := omega) only [n_lit, n_add, n_mul, n_sub, n_tn, n_ltT, n_ltF, n_leT, n_leF, n_eqT, n_eqF, n_div, n_ixT, n_ixF, n_not, n_md, n_dec, n_and1, n_and3, n_and7, n_and15, n_and31, n_and63, Nat.mod_eq_of_lt, Nat.zero_add, Nat.add_zero, Nat.zero_mul, Nat.sub_zero, not_false_eq_true, not_true_eq_false, upd_at, upd_ne])  | ((with_reducible refine s_bd (eM _ ?_ ?_) ?_); (· exact hM); (· rfl)) | ((with_reducible refine s_pos ?_ ?_); · rfl)
      rfl
  have hpl : pl < n := by omega
  rw [sg_lt hpl] at eM eC
  have hT := t4 pl hpl
  have z := n_negF (a := T pl) (b := 1) (by omega) (by omega)
  by_cases gs : small T pl
  · have gs' : 97 ≤ T pl ∧ T pl ≤ 122 := gs
    have hs1 := M_isSmall1 gs
    obtain ⟨q, w1, w2, w3, w4, w5, w6⟩ := word_loop t3 t4 pl (n - pl) 0 (by omega) (fun j a b => by omega)
    simp only [VW0, Nat.add_zero] at w5 w6 w1
    have w1' : pl < q := by
      by_cases c : q = pl
      · subst c
        rcases w4 with x | x
        · omega
        · exact absurd gs x
      · omega
    have cW : ∀ v, TC v n T → Rd_position v = NN pl → f_Rd_readWord v = some (tR v (NN q) (NN 1) (VW (fun j => T (pl + j)) (q - pl)) (Rd_place v)) := by
      intro v hv hp
      unfold f_Rd_readWord
      rw [hp]
      exact w5 v hv _ LF (lf_big (by omega))
    have fC : ∀ rd, TC rd n T → Rd_position rd = NN j → f_Rd_advance rd = some (tR rd (NN q) (NN 1) (VW (fun j => T (pl + j)) (q - pl)) (NN pl)) := by
      intro rd hC hpos
      unfold f_Rd_advance
      rw [hpos]
      refine (s4 rd hC _ LF (lf_big (by omega))).trans ?_
      repeat first | (with_reducible refine s_nmj1 ?_) | (with_reducible refine s_nmj2 ?_) | ((with_reducible refine s_nm ?_); intro y_ hy_; (try simp (disch := omega) only [n_lit, n_add, n_mul, n_sub, n_tn, n_ltT, n_ltF, n_leT, n_leF, n_eqT, n_eqF, n_div, n_ixT, n_ixF, n_not, n_md, n_dec, n_and1, n_and3, n_and7, n_and15, n_and31, n_and63, Nat.mod_eq_of_lt, Nat.zero_add, Nat.add_zero, Nat.zero_mul, Nat.sub_zero, not_false_eq_true, not_true_eq_false, upd_at, upd_ne, z] at hy_); subst hy_) | ((with_reducible refine s_pos ?_ ?_); · simp (disch := omega) only [n_lit, n_add, n_mul, n_sub, n_tn, n_ltT, n_ltF, n_leT, n_leF, n_eqT, n_eqF, n_div, n_ixT, n_ixF, n_not, n_md, n_dec, n_and1, n_and3, n_and7, n_and15, n_and31, n_and63, Nat.mod_eq_of_lt, Nat.zero_add, Nat.add_zero, Nat.zero_mul, Nat.sub_zero, not_false_eq_true, not_true_eq_false, upd_at, upd_ne, z]) | ((with_reducible refine s_neg ?_ ?_); · simp (disch := omega) only [n_lit, n_add, n_mul, n_sub, n_tn, n_ltT, n_ltF, n_leT, n_leF, n_eqT, n_eqF, n_div, n_ixT, n_ixF, n_not, n_md, n_dec, n_and1, n_and3, n_and7, n_and15, n_and31, n_and63, Nat.mod_eq_of_lt, Nat.zero_add, Nat.add_zero, Nat.zero_mul, Nat.sub_zero, not_false_eq_true, not_true_eq_false, upd_at, upd_ne, z])  | ((with_reducible refine s_bd (eC _ ?_) ?_); · exact hC) | ((with_reducible refine s_bd (cW _ ?_ ?_) ?_); (· exact hC); (· rfl))
      rfl
    have hW : ∀ w, w < 25 → MW T pl q w → ∀ v, TMm v n T → M_at (M_rd v) = NN q → M_place (M_rd v) = NN pl → f_M_wordHere v = some (NN w) := by
      intro w hw hm v hv ha hp
      rcases M_wordHere1 t3 hv.2 w2 ha hp (by omega) with ⟨u, u1, u2, u3⟩ | ⟨u1, u2⟩
      · rw [u3, MW_uniq hw u1 hm u2]
      · exact absurd hm (u1 w hw)
    have hN : (∀ w, w < 25 → ¬ MW T pl q w) → ∀ v, TMm v n T → M_at (M_rd v) = NN q → M_place (M_rd v) = NN pl → f_M_wordHere v = some (-1) := by
      intro hm v hv ha hp
      rcases M_wordHere1 t3 hv.2 w2 ha hp (by omega) with ⟨u, u1, u2, u3⟩ | ⟨u1, u2⟩
      · exact absurd u2 (hm u u1)
      · exact u2
    have hNm : ∀ v, TMm v n T → M_at (M_rd v) = NN q → M_place (M_rd v) = NN pl → f_M_nameHere v = some (tM v (M_at (M_rd v)) (M_place (M_rd v)) (M_sort (M_rd v)) (NN (hs (fun j => T (pl + j)) (q - pl) 6))) := by
      intro v hv ha hp
      unfold f_M_nameHere
      exact M_nameHere1 t3 hv.2 w2 ha hp (by omega) w3 _ 6 0 LF (by omega) (lf_big (by omega))
    rcases word_val w1' w3 with ⟨v1, v2, v3, v4⟩ | ⟨v1, v2, v3⟩
    · rw [v2] at fC
      by_cases gk : ∃ k, k < 25 ∧ hs (fun j => T (pl + j)) (q - pl) 6 = WP k
      · obtain ⟨k, k1, k2⟩ := gk
        have hm := (v4 k k1).mp k2
        have hw := hW (cm k) (cm_lt k k1) hm
        have z2 := n_negF (a := cm k) (b := 1) (by have := cm_lt k k1; omega) (by omega)
        refine ⟨q, pl, NN 1, NN 0, fun _ => NN (hs (fun j => T (pl + j)) (q - pl) 6), fun _ => NN (cm k), s1, by omega, w2, fC, ?_, fun _ _ => Or.inr (Or.inl ⟨k, k1, rfl, by rw [k2], rfl, rfl, hm.1, w1', w4⟩)⟩
        intro m hM hat
        unfold f_M_token
        rw [hat]
        refine (s5 m hM _ LF (lf_big (by omega))).trans ?_
        repeat first | (with_reducible refine s_nmj1 ?_) | (with_reducible refine s_nmj2 ?_) | ((with_reducible refine s_nm ?_); intro y_ hy_; (try simp (disch := omega) only [n_lit, n_add, n_mul, n_sub, n_tn, n_ltT, n_ltF, n_leT, n_leF, n_eqT, n_eqF, n_div, n_ixT, n_ixF, n_not, n_md, n_dec, n_and1, n_and3, n_and7, n_and15, n_and31, n_and63, Nat.mod_eq_of_lt, Nat.zero_add, Nat.add_zero, Nat.zero_mul, Nat.sub_zero, not_false_eq_true, not_true_eq_false, upd_at, upd_ne, z] at hy_); subst hy_) | ((with_reducible refine s_pos ?_ ?_); · simp (disch := omega) only [n_lit, n_add, n_mul, n_sub, n_tn, n_ltT, n_ltF, n_leT, n_leF, n_eqT, n_eqF, n_div, n_ixT, n_ixF, n_not, n_md, n_dec, n_and1, n_and3, n_and7, n_and15, n_and31, n_and63, Nat.mod_eq_of_lt, Nat.zero_add, Nat.add_zero, Nat.zero_mul, Nat.sub_zero, not_false_eq_true, not_true_eq_false, upd_at, upd_ne, z]) | ((with_reducible refine s_neg ?_ ?_); · simp (disch := omega) only [n_lit, n_add, n_mul, n_sub, n_tn, n_ltT, n_ltF, n_leT, n_leF, n_eqT, n_eqF, n_div, n_ixT, n_ixF, n_not, n_md, n_dec, n_and1, n_and3, n_and7, n_and15, n_and31, n_and63, Nat.mod_eq_of_lt, Nat.zero_add, Nat.add_zero, Nat.zero_mul, Nat.sub_zero, not_false_eq_true, not_true_eq_false, upd_at, upd_ne, z])  | ((with_reducible refine s_bd (eM _ ?_ ?_) ?_); (· exact hM); (· rfl)) | (with_reducible refine s_bd hs1 ?_)
        refine (w6 m hM _ _ LF (lf_big (by omega))).trans ?_
        repeat first | (with_reducible refine s_nmj1 ?_) | (with_reducible refine s_nmj2 ?_) | ((with_reducible refine s_nm ?_); intro y_ hy_; (try simp (disch := omega) only [n_lit, n_add, n_mul, n_sub, n_tn, n_ltT, n_ltF, n_leT, n_leF, n_eqT, n_eqF, n_div, n_ixT, n_ixF, n_not, n_md, n_dec, n_and1, n_and3, n_and7, n_and15, n_and31, n_and63, Nat.mod_eq_of_lt, Nat.zero_add, Nat.add_zero, Nat.zero_mul, Nat.sub_zero, not_false_eq_true, not_true_eq_false, upd_at, upd_ne, z2] at hy_); subst hy_) | ((with_reducible refine s_pos ?_ ?_); · simp (disch := omega) only [n_lit, n_add, n_mul, n_sub, n_tn, n_ltT, n_ltF, n_leT, n_leF, n_eqT, n_eqF, n_div, n_ixT, n_ixF, n_not, n_md, n_dec, n_and1, n_and3, n_and7, n_and15, n_and31, n_and63, Nat.mod_eq_of_lt, Nat.zero_add, Nat.add_zero, Nat.zero_mul, Nat.sub_zero, not_false_eq_true, not_true_eq_false, upd_at, upd_ne, z2]) | ((with_reducible refine s_neg ?_ ?_); · simp (disch := omega) only [n_lit, n_add, n_mul, n_sub, n_tn, n_ltT, n_ltF, n_leT, n_leF, n_eqT, n_eqF, n_div, n_ixT, n_ixF, n_not, n_md, n_dec, n_and1, n_and3, n_and7, n_and15, n_and31, n_and63, Nat.mod_eq_of_lt, Nat.zero_add, Nat.add_zero, Nat.zero_mul, Nat.sub_zero, not_false_eq_true, not_true_eq_false, upd_at, upd_ne, z2])  | ((with_reducible refine s_bd (hw _ ?_ ?_ ?_) ?_); (· exact hM); (· rfl); (· rfl))
        rfl
      · have hno : ∀ w, w < 25 → ¬ MW T pl q w := fun w hw hm => by
          obtain ⟨k, k1, k2⟩ := cm_on w hw
          exact gk ⟨k, k1, (v4 k k1).mpr (by rw [k2]; exact hm)⟩
        have hn := hN hno
        refine ⟨q, pl, NN 1, NN 1, fun _ => NN (hs (fun j => T (pl + j)) (q - pl) 6), fun _ => NN (hs (fun j => T (pl + j)) (q - pl) 6), s1, by omega, w2, fC, ?_, fun _ _ => Or.inr (Or.inr (Or.inl ⟨hs (fun j => T (pl + j)) (q - pl) 6, v3, rfl, rfl, fun k hk e => gk ⟨k, hk, e⟩, rfl, rfl, gs, w1'⟩))⟩
        intro m hM hat
        unfold f_M_token
        rw [hat]
        refine (s5 m hM _ LF (lf_big (by omega))).trans ?_
        repeat first | (with_reducible refine s_nmj1 ?_) | (with_reducible refine s_nmj2 ?_) | ((with_reducible refine s_nm ?_); intro y_ hy_; (try simp (disch := omega) only [n_lit, n_add, n_mul, n_sub, n_tn, n_ltT, n_ltF, n_leT, n_leF, n_eqT, n_eqF, n_div, n_ixT, n_ixF, n_not, n_md, n_dec, n_and1, n_and3, n_and7, n_and15, n_and31, n_and63, Nat.mod_eq_of_lt, Nat.zero_add, Nat.add_zero, Nat.zero_mul, Nat.sub_zero, not_false_eq_true, not_true_eq_false, upd_at, upd_ne, z] at hy_); subst hy_) | ((with_reducible refine s_pos ?_ ?_); · simp (disch := omega) only [n_lit, n_add, n_mul, n_sub, n_tn, n_ltT, n_ltF, n_leT, n_leF, n_eqT, n_eqF, n_div, n_ixT, n_ixF, n_not, n_md, n_dec, n_and1, n_and3, n_and7, n_and15, n_and31, n_and63, Nat.mod_eq_of_lt, Nat.zero_add, Nat.add_zero, Nat.zero_mul, Nat.sub_zero, not_false_eq_true, not_true_eq_false, upd_at, upd_ne, z]) | ((with_reducible refine s_neg ?_ ?_); · simp (disch := omega) only [n_lit, n_add, n_mul, n_sub, n_tn, n_ltT, n_ltF, n_leT, n_leF, n_eqT, n_eqF, n_div, n_ixT, n_ixF, n_not, n_md, n_dec, n_and1, n_and3, n_and7, n_and15, n_and31, n_and63, Nat.mod_eq_of_lt, Nat.zero_add, Nat.add_zero, Nat.zero_mul, Nat.sub_zero, not_false_eq_true, not_true_eq_false, upd_at, upd_ne, z])  | ((with_reducible refine s_bd (eM _ ?_ ?_) ?_); (· exact hM); (· rfl)) | (with_reducible refine s_bd hs1 ?_)
        refine (w6 m hM _ _ LF (lf_big (by omega))).trans ?_
        repeat first | (with_reducible refine s_nmj1 ?_) | (with_reducible refine s_nmj2 ?_) | ((with_reducible refine s_nm ?_); intro y_ hy_; (try simp (disch := omega) only [n_lit, n_add, n_mul, n_sub, n_tn, n_ltT, n_ltF, n_leT, n_leF, n_eqT, n_eqF, n_div, n_ixT, n_ixF, n_not, n_md, n_dec, n_and1, n_and3, n_and7, n_and15, n_and31, n_and63, Nat.mod_eq_of_lt, Nat.zero_add, Nat.add_zero, Nat.zero_mul, Nat.sub_zero, not_false_eq_true, not_true_eq_false, upd_at, upd_ne] at hy_); subst hy_) | ((with_reducible refine s_pos ?_ ?_); · simp (disch := omega) only [n_lit, n_add, n_mul, n_sub, n_tn, n_ltT, n_ltF, n_leT, n_leF, n_eqT, n_eqF, n_div, n_ixT, n_ixF, n_not, n_md, n_dec, n_and1, n_and3, n_and7, n_and15, n_and31, n_and63, Nat.mod_eq_of_lt, Nat.zero_add, Nat.add_zero, Nat.zero_mul, Nat.sub_zero, not_false_eq_true, not_true_eq_false, upd_at, upd_ne]) | ((with_reducible refine s_neg ?_ ?_); · simp (disch := omega) only [n_lit, n_add, n_mul, n_sub, n_tn, n_ltT, n_ltF, n_leT, n_leF, n_eqT, n_eqF, n_div, n_ixT, n_ixF, n_not, n_md, n_dec, n_and1, n_and3, n_and7, n_and15, n_and31, n_and63, Nat.mod_eq_of_lt, Nat.zero_add, Nat.add_zero, Nat.zero_mul, Nat.sub_zero, not_false_eq_true, not_true_eq_false, upd_at, upd_ne])  | ((with_reducible refine s_bd (hn _ ?_ ?_ ?_) ?_); (· exact hM); (· rfl); (· rfl)) | ((with_reducible refine s_bd (hNm _ ?_ ?_ ?_) ?_); (· exact hM); (· rfl); (· rfl)) | ((with_reducible refine s_pos ?_ ?_); · rfl)
        rfl
    · rw [v2] at fC
      have hn := hN v3
      refine ⟨q, pl, NN 1, NN 5, fun _ => -NN 1, fun _ => -NN 1, s1, by omega, w2, fC, ?_, fun _ _ => Or.inr (Or.inr (Or.inr (Or.inl ⟨rfl, rfl, rfl, w1'⟩)))⟩
      intro m hM hat
      unfold f_M_token
      rw [hat]
      refine (s5 m hM _ LF (lf_big (by omega))).trans ?_
      repeat first | (with_reducible refine s_nmj1 ?_) | (with_reducible refine s_nmj2 ?_) | ((with_reducible refine s_nm ?_); intro y_ hy_; (try simp (disch := omega) only [n_lit, n_add, n_mul, n_sub, n_tn, n_ltT, n_ltF, n_leT, n_leF, n_eqT, n_eqF, n_div, n_ixT, n_ixF, n_not, n_md, n_dec, n_and1, n_and3, n_and7, n_and15, n_and31, n_and63, Nat.mod_eq_of_lt, Nat.zero_add, Nat.add_zero, Nat.zero_mul, Nat.sub_zero, not_false_eq_true, not_true_eq_false, upd_at, upd_ne, z] at hy_); subst hy_) | ((with_reducible refine s_pos ?_ ?_); · simp (disch := omega) only [n_lit, n_add, n_mul, n_sub, n_tn, n_ltT, n_ltF, n_leT, n_leF, n_eqT, n_eqF, n_div, n_ixT, n_ixF, n_not, n_md, n_dec, n_and1, n_and3, n_and7, n_and15, n_and31, n_and63, Nat.mod_eq_of_lt, Nat.zero_add, Nat.add_zero, Nat.zero_mul, Nat.sub_zero, not_false_eq_true, not_true_eq_false, upd_at, upd_ne, z]) | ((with_reducible refine s_neg ?_ ?_); · simp (disch := omega) only [n_lit, n_add, n_mul, n_sub, n_tn, n_ltT, n_ltF, n_leT, n_leF, n_eqT, n_eqF, n_div, n_ixT, n_ixF, n_not, n_md, n_dec, n_and1, n_and3, n_and7, n_and15, n_and31, n_and63, Nat.mod_eq_of_lt, Nat.zero_add, Nat.add_zero, Nat.zero_mul, Nat.sub_zero, not_false_eq_true, not_true_eq_false, upd_at, upd_ne, z])  | ((with_reducible refine s_bd (eM _ ?_ ?_) ?_); (· exact hM); (· rfl)) | (with_reducible refine s_bd hs1 ?_)
      refine (w6 m hM _ _ LF (lf_big (by omega))).trans ?_
      repeat first | (with_reducible refine s_nmj1 ?_) | (with_reducible refine s_nmj2 ?_) | ((with_reducible refine s_nm ?_); intro y_ hy_; (try simp (disch := omega) only [n_lit, n_add, n_mul, n_sub, n_tn, n_ltT, n_ltF, n_leT, n_leF, n_eqT, n_eqF, n_div, n_ixT, n_ixF, n_not, n_md, n_dec, n_and1, n_and3, n_and7, n_and15, n_and31, n_and63, Nat.mod_eq_of_lt, Nat.zero_add, Nat.add_zero, Nat.zero_mul, Nat.sub_zero, not_false_eq_true, not_true_eq_false, upd_at, upd_ne] at hy_); subst hy_) | ((with_reducible refine s_pos ?_ ?_); · simp (disch := omega) only [n_lit, n_add, n_mul, n_sub, n_tn, n_ltT, n_ltF, n_leT, n_leF, n_eqT, n_eqF, n_div, n_ixT, n_ixF, n_not, n_md, n_dec, n_and1, n_and3, n_and7, n_and15, n_and31, n_and63, Nat.mod_eq_of_lt, Nat.zero_add, Nat.add_zero, Nat.zero_mul, Nat.sub_zero, not_false_eq_true, not_true_eq_false, upd_at, upd_ne]) | ((with_reducible refine s_neg ?_ ?_); · simp (disch := omega) only [n_lit, n_add, n_mul, n_sub, n_tn, n_ltT, n_ltF, n_leT, n_leF, n_eqT, n_eqF, n_div, n_ixT, n_ixF, n_not, n_md, n_dec, n_and1, n_and3, n_and7, n_and15, n_and31, n_and63, Nat.mod_eq_of_lt, Nat.zero_add, Nat.add_zero, Nat.zero_mul, Nat.sub_zero, not_false_eq_true, not_true_eq_false, upd_at, upd_ne])  | ((with_reducible refine s_bd (hn _ ?_ ?_ ?_) ?_); (· exact hM); (· rfl); (· rfl)) | ((with_reducible refine s_pos ?_ ?_); · rfl)
      rfl
  · have hs0 := M_isSmall0 (c := T pl) gs hT
    have gs' : ¬ (97 ≤ T pl ∧ T pl ≤ 122) := gs
    by_cases gd : digit T pl
    · have gd' : 48 ≤ T pl ∧ T pl ≤ 57 := gd
      have hd1 := M_isDigit1 gd
      obtain ⟨q, W, w1, w2, w3, w4, w5, w6⟩ := number_loop t3 t4 (n - pl) pl 0 (by omega) (by omega)
      have w1' : pl < q := by
        by_cases c : q = pl
        · subst c
          rcases w3 with x | x
          · omega
          · exact absurd gd x
        · omega
      have cW : ∀ v, TC v n T → Rd_position v = NN pl → f_Rd_readNumber v = some (tR v (NN q) (NN 2) (NN (min W 100000)) (Rd_place v)) := by
        intro v hv hp
        unfold f_Rd_readNumber
        rw [hp]
        exact w5 v hv _ LF (lf_big (by omega))
      refine ⟨q, pl, NN 2, NN 2, fun _ => NN (min W 100000), fun _ => NN W, s1, by omega, w2, ?_, ?_, fun _ _ => Or.inr (Or.inr (Or.inr (Or.inr (Or.inl ⟨W, w4, rfl, rfl, rfl, rfl, w1'⟩))))⟩
      · intro rd hC hpos
        unfold f_Rd_advance
        rw [hpos]
        refine (s4 rd hC _ LF (lf_big (by omega))).trans ?_
        repeat first | (with_reducible refine s_nmj1 ?_) | (with_reducible refine s_nmj2 ?_) | ((with_reducible refine s_nm ?_); intro y_ hy_; (try simp (disch := omega) only [n_lit, n_add, n_mul, n_sub, n_tn, n_ltT, n_ltF, n_leT, n_leF, n_eqT, n_eqF, n_div, n_ixT, n_ixF, n_not, n_md, n_dec, n_and1, n_and3, n_and7, n_and15, n_and31, n_and63, Nat.mod_eq_of_lt, Nat.zero_add, Nat.add_zero, Nat.zero_mul, Nat.sub_zero, not_false_eq_true, not_true_eq_false, upd_at, upd_ne, z] at hy_); subst hy_) | ((with_reducible refine s_pos ?_ ?_); · simp (disch := omega) only [n_lit, n_add, n_mul, n_sub, n_tn, n_ltT, n_ltF, n_leT, n_leF, n_eqT, n_eqF, n_div, n_ixT, n_ixF, n_not, n_md, n_dec, n_and1, n_and3, n_and7, n_and15, n_and31, n_and63, Nat.mod_eq_of_lt, Nat.zero_add, Nat.add_zero, Nat.zero_mul, Nat.sub_zero, not_false_eq_true, not_true_eq_false, upd_at, upd_ne, z]) | ((with_reducible refine s_neg ?_ ?_); · simp (disch := omega) only [n_lit, n_add, n_mul, n_sub, n_tn, n_ltT, n_ltF, n_leT, n_leF, n_eqT, n_eqF, n_div, n_ixT, n_ixF, n_not, n_md, n_dec, n_and1, n_and3, n_and7, n_and15, n_and31, n_and63, Nat.mod_eq_of_lt, Nat.zero_add, Nat.add_zero, Nat.zero_mul, Nat.sub_zero, not_false_eq_true, not_true_eq_false, upd_at, upd_ne, z])  | ((with_reducible refine s_bd (eC _ ?_) ?_); · exact hC) | ((with_reducible refine s_bd (cW _ ?_ ?_) ?_); (· exact hC); (· rfl))
        rfl
      · intro m hM hat
        unfold f_M_token
        rw [hat]
        refine (s5 m hM _ LF (lf_big (by omega))).trans ?_
        repeat first | (with_reducible refine s_nmj1 ?_) | (with_reducible refine s_nmj2 ?_) | ((with_reducible refine s_nm ?_); intro y_ hy_; (try simp (disch := omega) only [n_lit, n_add, n_mul, n_sub, n_tn, n_ltT, n_ltF, n_leT, n_leF, n_eqT, n_eqF, n_div, n_ixT, n_ixF, n_not, n_md, n_dec, n_and1, n_and3, n_and7, n_and15, n_and31, n_and63, Nat.mod_eq_of_lt, Nat.zero_add, Nat.add_zero, Nat.zero_mul, Nat.sub_zero, not_false_eq_true, not_true_eq_false, upd_at, upd_ne, z] at hy_); subst hy_) | ((with_reducible refine s_pos ?_ ?_); · simp (disch := omega) only [n_lit, n_add, n_mul, n_sub, n_tn, n_ltT, n_ltF, n_leT, n_leF, n_eqT, n_eqF, n_div, n_ixT, n_ixF, n_not, n_md, n_dec, n_and1, n_and3, n_and7, n_and15, n_and31, n_and63, Nat.mod_eq_of_lt, Nat.zero_add, Nat.add_zero, Nat.zero_mul, Nat.sub_zero, not_false_eq_true, not_true_eq_false, upd_at, upd_ne, z]) | ((with_reducible refine s_neg ?_ ?_); · simp (disch := omega) only [n_lit, n_add, n_mul, n_sub, n_tn, n_ltT, n_ltF, n_leT, n_leF, n_eqT, n_eqF, n_div, n_ixT, n_ixF, n_not, n_md, n_dec, n_and1, n_and3, n_and7, n_and15, n_and31, n_and63, Nat.mod_eq_of_lt, Nat.zero_add, Nat.add_zero, Nat.zero_mul, Nat.sub_zero, not_false_eq_true, not_true_eq_false, upd_at, upd_ne, z])  | ((with_reducible refine s_bd (eM _ ?_ ?_) ?_); (· exact hM); (· rfl)) | (with_reducible refine s_bd hs0 ?_) | (with_reducible refine s_bd hd1 ?_)
        exact w6 m hM _ _ LF (lf_big (by omega))
    · have hd0 := M_isDigit0 (c := T pl) gd hT
      have gd' : ¬ (48 ≤ T pl ∧ T pl ≤ 57) := gd
      have fin : ∀ tok sort : Nat, (T pl = 59 ∧ tok = 3 ∧ sort = 3) ∨ (T pl ≠ 59 ∧ tok = 4 ∧ sort = 5) → (∀ rd, TC rd n T → Rd_position rd = NN j → f_Rd_advance rd = some (tR rd (NN (pl + 1)) (NN tok) (Rd_value rd) (NN pl))) ∧ (∀ m, TMm m n T → M_at (M_rd m) = NN j → f_M_token m = some (tM m (NN (pl + 1)) (NN pl) (NN sort) (M_value (M_rd m)))) := by
        intro tok sort hts
        constructor
        · intro rd hC hpos
          unfold f_Rd_advance
          rw [hpos]
          refine (s4 rd hC _ LF (lf_big (by omega))).trans ?_
          rcases hts with ⟨x1, rfl, rfl⟩ | ⟨x1, rfl, rfl⟩
          · repeat first | (with_reducible refine s_nmj1 ?_) | (with_reducible refine s_nmj2 ?_) | ((with_reducible refine s_nm ?_); intro y_ hy_; (try simp (disch := omega) only [n_lit, n_add, n_mul, n_sub, n_tn, n_ltT, n_ltF, n_leT, n_leF, n_eqT, n_eqF, n_div, n_ixT, n_ixF, n_not, n_md, n_dec, n_and1, n_and3, n_and7, n_and15, n_and31, n_and63, Nat.mod_eq_of_lt, Nat.zero_add, Nat.add_zero, Nat.zero_mul, Nat.sub_zero, not_false_eq_true, not_true_eq_false, upd_at, upd_ne, z] at hy_); subst hy_) | ((with_reducible refine s_pos ?_ ?_); · simp (disch := omega) only [n_lit, n_add, n_mul, n_sub, n_tn, n_ltT, n_ltF, n_leT, n_leF, n_eqT, n_eqF, n_div, n_ixT, n_ixF, n_not, n_md, n_dec, n_and1, n_and3, n_and7, n_and15, n_and31, n_and63, Nat.mod_eq_of_lt, Nat.zero_add, Nat.add_zero, Nat.zero_mul, Nat.sub_zero, not_false_eq_true, not_true_eq_false, upd_at, upd_ne, z]) | ((with_reducible refine s_neg ?_ ?_); · simp (disch := omega) only [n_lit, n_add, n_mul, n_sub, n_tn, n_ltT, n_ltF, n_leT, n_leF, n_eqT, n_eqF, n_div, n_ixT, n_ixF, n_not, n_md, n_dec, n_and1, n_and3, n_and7, n_and15, n_and31, n_and63, Nat.mod_eq_of_lt, Nat.zero_add, Nat.add_zero, Nat.zero_mul, Nat.sub_zero, not_false_eq_true, not_true_eq_false, upd_at, upd_ne, z])  | ((with_reducible refine s_bd (eC _ ?_) ?_); · exact hC)
            rfl
          · by_cases y1 : T pl < 48
            · repeat first | (with_reducible refine s_nmj1 ?_) | (with_reducible refine s_nmj2 ?_) | ((with_reducible refine s_nm ?_); intro y_ hy_; (try simp (disch := omega) only [n_lit, n_add, n_mul, n_sub, n_tn, n_ltT, n_ltF, n_leT, n_leF, n_eqT, n_eqF, n_div, n_ixT, n_ixF, n_not, n_md, n_dec, n_and1, n_and3, n_and7, n_and15, n_and31, n_and63, Nat.mod_eq_of_lt, Nat.zero_add, Nat.add_zero, Nat.zero_mul, Nat.sub_zero, not_false_eq_true, not_true_eq_false, upd_at, upd_ne, z] at hy_); subst hy_) | ((with_reducible refine s_pos ?_ ?_); · simp (disch := omega) only [n_lit, n_add, n_mul, n_sub, n_tn, n_ltT, n_ltF, n_leT, n_leF, n_eqT, n_eqF, n_div, n_ixT, n_ixF, n_not, n_md, n_dec, n_and1, n_and3, n_and7, n_and15, n_and31, n_and63, Nat.mod_eq_of_lt, Nat.zero_add, Nat.add_zero, Nat.zero_mul, Nat.sub_zero, not_false_eq_true, not_true_eq_false, upd_at, upd_ne, z]) | ((with_reducible refine s_neg ?_ ?_); · simp (disch := omega) only [n_lit, n_add, n_mul, n_sub, n_tn, n_ltT, n_ltF, n_leT, n_leF, n_eqT, n_eqF, n_div, n_ixT, n_ixF, n_not, n_md, n_dec, n_and1, n_and3, n_and7, n_and15, n_and31, n_and63, Nat.mod_eq_of_lt, Nat.zero_add, Nat.add_zero, Nat.zero_mul, Nat.sub_zero, not_false_eq_true, not_true_eq_false, upd_at, upd_ne, z])  | ((with_reducible refine s_bd (eC _ ?_) ?_); · exact hC)
              rfl
            · by_cases y2 : T pl < 97
              · repeat first | (with_reducible refine s_nmj1 ?_) | (with_reducible refine s_nmj2 ?_) | ((with_reducible refine s_nm ?_); intro y_ hy_; (try simp (disch := omega) only [n_lit, n_add, n_mul, n_sub, n_tn, n_ltT, n_ltF, n_leT, n_leF, n_eqT, n_eqF, n_div, n_ixT, n_ixF, n_not, n_md, n_dec, n_and1, n_and3, n_and7, n_and15, n_and31, n_and63, Nat.mod_eq_of_lt, Nat.zero_add, Nat.add_zero, Nat.zero_mul, Nat.sub_zero, not_false_eq_true, not_true_eq_false, upd_at, upd_ne, z] at hy_); subst hy_) | ((with_reducible refine s_pos ?_ ?_); · simp (disch := omega) only [n_lit, n_add, n_mul, n_sub, n_tn, n_ltT, n_ltF, n_leT, n_leF, n_eqT, n_eqF, n_div, n_ixT, n_ixF, n_not, n_md, n_dec, n_and1, n_and3, n_and7, n_and15, n_and31, n_and63, Nat.mod_eq_of_lt, Nat.zero_add, Nat.add_zero, Nat.zero_mul, Nat.sub_zero, not_false_eq_true, not_true_eq_false, upd_at, upd_ne, z]) | ((with_reducible refine s_neg ?_ ?_); · simp (disch := omega) only [n_lit, n_add, n_mul, n_sub, n_tn, n_ltT, n_ltF, n_leT, n_leF, n_eqT, n_eqF, n_div, n_ixT, n_ixF, n_not, n_md, n_dec, n_and1, n_and3, n_and7, n_and15, n_and31, n_and63, Nat.mod_eq_of_lt, Nat.zero_add, Nat.add_zero, Nat.zero_mul, Nat.sub_zero, not_false_eq_true, not_true_eq_false, upd_at, upd_ne, z])  | ((with_reducible refine s_bd (eC _ ?_) ?_); · exact hC)
                rfl
              · repeat first | (with_reducible refine s_nmj1 ?_) | (with_reducible refine s_nmj2 ?_) | ((with_reducible refine s_nm ?_); intro y_ hy_; (try simp (disch := omega) only [n_lit, n_add, n_mul, n_sub, n_tn, n_ltT, n_ltF, n_leT, n_leF, n_eqT, n_eqF, n_div, n_ixT, n_ixF, n_not, n_md, n_dec, n_and1, n_and3, n_and7, n_and15, n_and31, n_and63, Nat.mod_eq_of_lt, Nat.zero_add, Nat.add_zero, Nat.zero_mul, Nat.sub_zero, not_false_eq_true, not_true_eq_false, upd_at, upd_ne, z] at hy_); subst hy_) | ((with_reducible refine s_pos ?_ ?_); · simp (disch := omega) only [n_lit, n_add, n_mul, n_sub, n_tn, n_ltT, n_ltF, n_leT, n_leF, n_eqT, n_eqF, n_div, n_ixT, n_ixF, n_not, n_md, n_dec, n_and1, n_and3, n_and7, n_and15, n_and31, n_and63, Nat.mod_eq_of_lt, Nat.zero_add, Nat.add_zero, Nat.zero_mul, Nat.sub_zero, not_false_eq_true, not_true_eq_false, upd_at, upd_ne, z]) | ((with_reducible refine s_neg ?_ ?_); · simp (disch := omega) only [n_lit, n_add, n_mul, n_sub, n_tn, n_ltT, n_ltF, n_leT, n_leF, n_eqT, n_eqF, n_div, n_ixT, n_ixF, n_not, n_md, n_dec, n_and1, n_and3, n_and7, n_and15, n_and31, n_and63, Nat.mod_eq_of_lt, Nat.zero_add, Nat.add_zero, Nat.zero_mul, Nat.sub_zero, not_false_eq_true, not_true_eq_false, upd_at, upd_ne, z])  | ((with_reducible refine s_bd (eC _ ?_) ?_); · exact hC)
                rfl
        · intro m hM hat
          unfold f_M_token
          rw [hat]
          refine (s5 m hM _ LF (lf_big (by omega))).trans ?_
          rcases hts with ⟨x1, rfl, rfl⟩ | ⟨x1, rfl, rfl⟩
          · repeat first | (with_reducible refine s_nmj1 ?_) | (with_reducible refine s_nmj2 ?_) | ((with_reducible refine s_nm ?_); intro y_ hy_; (try simp (disch := omega) only [n_lit, n_add, n_mul, n_sub, n_tn, n_ltT, n_ltF, n_leT, n_leF, n_eqT, n_eqF, n_div, n_ixT, n_ixF, n_not, n_md, n_dec, n_and1, n_and3, n_and7, n_and15, n_and31, n_and63, Nat.mod_eq_of_lt, Nat.zero_add, Nat.add_zero, Nat.zero_mul, Nat.sub_zero, not_false_eq_true, not_true_eq_false, upd_at, upd_ne, z] at hy_); subst hy_) | ((with_reducible refine s_pos ?_ ?_); · simp (disch := omega) only [n_lit, n_add, n_mul, n_sub, n_tn, n_ltT, n_ltF, n_leT, n_leF, n_eqT, n_eqF, n_div, n_ixT, n_ixF, n_not, n_md, n_dec, n_and1, n_and3, n_and7, n_and15, n_and31, n_and63, Nat.mod_eq_of_lt, Nat.zero_add, Nat.add_zero, Nat.zero_mul, Nat.sub_zero, not_false_eq_true, not_true_eq_false, upd_at, upd_ne, z]) | ((with_reducible refine s_neg ?_ ?_); · simp (disch := omega) only [n_lit, n_add, n_mul, n_sub, n_tn, n_ltT, n_ltF, n_leT, n_leF, n_eqT, n_eqF, n_div, n_ixT, n_ixF, n_not, n_md, n_dec, n_and1, n_and3, n_and7, n_and15, n_and31, n_and63, Nat.mod_eq_of_lt, Nat.zero_add, Nat.add_zero, Nat.zero_mul, Nat.sub_zero, not_false_eq_true, not_true_eq_false, upd_at, upd_ne, z])  | ((with_reducible refine s_bd (eM _ ?_ ?_) ?_); (· exact hM); (· rfl)) | (with_reducible refine s_bd hs0 ?_) | (with_reducible refine s_bd hd0 ?_)
            rfl
          · repeat first | (with_reducible refine s_nmj1 ?_) | (with_reducible refine s_nmj2 ?_) | ((with_reducible refine s_nm ?_); intro y_ hy_; (try simp (disch := omega) only [n_lit, n_add, n_mul, n_sub, n_tn, n_ltT, n_ltF, n_leT, n_leF, n_eqT, n_eqF, n_div, n_ixT, n_ixF, n_not, n_md, n_dec, n_and1, n_and3, n_and7, n_and15, n_and31, n_and63, Nat.mod_eq_of_lt, Nat.zero_add, Nat.add_zero, Nat.zero_mul, Nat.sub_zero, not_false_eq_true, not_true_eq_false, upd_at, upd_ne, z] at hy_); subst hy_) | ((with_reducible refine s_pos ?_ ?_); · simp (disch := omega) only [n_lit, n_add, n_mul, n_sub, n_tn, n_ltT, n_ltF, n_leT, n_leF, n_eqT, n_eqF, n_div, n_ixT, n_ixF, n_not, n_md, n_dec, n_and1, n_and3, n_and7, n_and15, n_and31, n_and63, Nat.mod_eq_of_lt, Nat.zero_add, Nat.add_zero, Nat.zero_mul, Nat.sub_zero, not_false_eq_true, not_true_eq_false, upd_at, upd_ne, z]) | ((with_reducible refine s_neg ?_ ?_); · simp (disch := omega) only [n_lit, n_add, n_mul, n_sub, n_tn, n_ltT, n_ltF, n_leT, n_leF, n_eqT, n_eqF, n_div, n_ixT, n_ixF, n_not, n_md, n_dec, n_and1, n_and3, n_and7, n_and15, n_and31, n_and63, Nat.mod_eq_of_lt, Nat.zero_add, Nat.add_zero, Nat.zero_mul, Nat.sub_zero, not_false_eq_true, not_true_eq_false, upd_at, upd_ne, z])  | ((with_reducible refine s_bd (eM _ ?_ ?_) ?_); (· exact hM); (· rfl)) | (with_reducible refine s_bd hs0 ?_) | (with_reducible refine s_bd hd0 ?_)
            rfl
      by_cases x : T pl = 59
      · obtain ⟨f1, f2⟩ := fin 3 3 (Or.inl ⟨x, rfl, rfl⟩)
        exact ⟨pl + 1, pl, _, _, id, id, s1, by omega, by omega, f1, f2, fun _ _ => Or.inr (Or.inr (Or.inr (Or.inr (Or.inr (Or.inl ⟨rfl, rfl, by omega⟩)))))⟩
      · obtain ⟨f1, f2⟩ := fin 4 5 (Or.inr ⟨x, rfl, rfl⟩)
        exact ⟨pl + 1, pl, _, _, id, id, s1, by omega, by omega, f1, f2, fun _ _ => Or.inr (Or.inr (Or.inr (Or.inr (Or.inr (Or.inr ⟨rfl, rfl, by omega⟩)))))⟩
