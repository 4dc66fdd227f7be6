/-! LINES: an INSTRUCTION, class and model -/
def SSs : List Nat := [115, 32, 32, 108, 104, 32, 113, 113, 113, 116, 32, 32, 118, 32, 32, 100, 118, 32, 110, 32, 32, 32, 32, 32, 114, 118, 32, 114, 114, 114, 114, 114, 114, 114, 114, 114, 114, 114, 114, 114, 114, 109, 114, 114, 109, 114, 32, 32, 102, 114, 32, 114, 102, 32, 114, 102, 32, 102, 102, 102, 102, 102, 102, 119, 32, 32, 114, 119, 32, 114, 114, 119, 102, 102, 119]
def SSB (i : Nat) : Nat := SSs.getD i 0
def SD (rd : T_Rd) : Prop := ∀ i, i < 75 → Rd_sorts rd i = NN (SSB i)
def CDX (c c3 : T_Mc) (sz : Nat) (code a b d : Int32) : Prop := M_number c3 = upd (M_number c) 18 (NN (sz + 1)) ∧ (∀ j, M_codeSort c3 j = upd (M_codeSort c) (40 + sz) code j) ∧ (∀ j, M_codeA c3 j = upd (M_codeA c) (40 + sz) a j) ∧ (∀ j, M_codeB c3 j = upd (M_codeB c) (40 + sz) b j) ∧ (∀ j, M_codeC c3 j = upd (M_codeC c) (40 + sz) d j) ∧
  M_codeTo c3 = M_codeTo c ∧ M_labelName c3 = M_labelName c ∧ M_labelAt c3 = M_labelAt c ∧ M_data c3 = M_data c ∧ (∀ j, j ≠ 40 + sz → M_codeName c3 j = M_codeName c j ∧ M_codePlace c3 j = M_codePlace c j)
def OKI (cc sz : Nat) (rd0 rd3 : T_Rd) (m3 : T_M) (a b d : Int32) : Prop := ∃ a' b' d', IN cc a' b' d' ∧ a = NN a' ∧ b = NN b' ∧ Rd_parts rd3 0 = NN a' ∧ Rd_parts rd3 1 = NN b' ∧ (cc < 14 → d = NN d' ∧ Rd_parts rd3 2 = NN d' ∧ Rd_wantedPlaces rd3 = Rd_wantedPlaces rd0) ∧
  (14 ≤ cc → Rd_parts rd3 2 = M_codeName (M_cd m3) (40 + sz) ∧ ∃ p, p ≤ 700 ∧ Rd_wantedPlaces rd3 = upd (Rd_wantedPlaces rd0) sz (NN p) ∧ M_codePlace (M_cd m3) (40 + sz) = NN p)
theorem upd_upd (f : Nat → Int32) (x : Nat) (a b : Int32) : upd (upd f x a) x b = upd f x b := by
  funext j
  by_cases q : j = x
  · rw [upd_at q, upd_at q]
  · rw [upd_ne q, upd_ne q, upd_ne q]
theorem BD_fault {T : Nat → Nat} {n : Nat} {rd : T_Rd} {m : T_M} (h : BD T n rd m) : ∃ f, (f ≠ 0 ∧ f < 10) ∧ Rd_fault rd = NN f ∧ M_fault (M_rd m) = NN f := by
  obtain ⟨_, _, f, p, a1, a2, a3, a4, a5, a6, a7⟩ := h
  exact ⟨f, ⟨a1, a2⟩, a4, a5⟩
theorem JA {T : Nat → Nat} {n : Nat} {rd : T_Rd} {m : T_M} {pl q : Nat} (h : AH T n rd m pl q) (pr : T_Pg) {w k s hi : Nat} (x : Nat) (hw : w < 25) (hk : k < 3) (hs : Rd_sorts rd (3 * w + k) = NN s) (hp : PLN s 0 hi) :
    (∃ rd1 m1 V pl' q', V ≤ hi ∧ cst pr (NN w) (NN k) rd = some rd1 ∧ opA x hi m = some m1 ∧ AH T n rd1 m1 pl' q' ∧ pl ≤ pl' ∧ FR1 rd rd1 ∧ FM1 m m1 ∧ Rd_parts rd1 = upd (Rd_parts rd) k (NN V) ∧ Rd_wantedPlaces rd1 = Rd_wantedPlaces rd ∧ Rd_toldData rd1 = Rd_toldData rd ∧ M_cd m1 = cA (M_cd m) x (NN V) ∧ M_hasData (M_rd m1) = M_hasData (M_rd m)) ∨
    (∃ rd1 m1, cst pr (NN w) (NN k) rd = some rd1 ∧ opA x hi m = some m1 ∧ BD T n rd1 m1 ∧ FR1 rd rd1 ∧ FM1 m m1 ∧ M_cd m1 = cA (M_cd m) x (NN 0) ∧ M_hasData (M_rd m1) = M_hasData (M_rd m)) := by
  rcases num_step h pr hw hk hs hp with ⟨rd1, m1, V, pl', q', v1, v2, a1, a2, a3, a4, a5, a6, a7, a8, a9, a10, a11, a12⟩ | ⟨rd1, m1, a1, a2, a3, a4, a5, a6, a7⟩
  · refine Or.inl ⟨rd1, sC m1 (cA (M_cd m1) x (NN V)), V, pl', q', v2, a1, ?_, a3, by omega, a6, a7, a8, a9, a10, by rw [← a11]; rfl, a12⟩
    unfold opA
    exact s_bd2 a2 rfl
  · refine Or.inr ⟨rd1, sC m1 (cA (M_cd m1) x (NN 0)), a1, ?_, a3, a4, a5, by rw [← a6]; rfl, a7⟩
    unfold opA
    exact s_bd2 a2 rfl
theorem BA {T : Nat → Nat} {n : Nat} {rd : T_Rd} {m : T_M} (h : BD T n rd m) (pr : T_Pg) (w k : Int32) (x hi : Nat) : ∃ m1, cst pr w k rd = some rd ∧ opA x hi m = some m1 ∧ BD T n rd m1 ∧ FM1 m m1 ∧ M_cd m1 = cA (M_cd m) x (NN 0) ∧ M_hasData (M_rd m1) = M_hasData (M_rd m) := by
  obtain ⟨f, hf, h1, h2⟩ := BD_fault h
  refine ⟨sC m (cA (M_cd m) x (NN 0)), cst_bad h1 hf, ?_, h, ⟨rfl, rfl, rfl, rfl, rfl, rfl, rfl, rfl, rfl⟩, rfl, rfl⟩
  unfold opA
  exact s_bd2 (M_nahB h2 hf (NN 0) (NN hi)).2 rfl
theorem JB {T : Nat → Nat} {n : Nat} {rd : T_Rd} {m : T_M} {pl q : Nat} (h : AH T n rd m pl q) (pr : T_Pg) {w k s hi : Nat} (x : Nat) (hw : w < 25) (hk : k < 3) (hs : Rd_sorts rd (3 * w + k) = NN s) (hp : PLN s 0 hi) :
    (∃ rd1 m1 V pl' q', V ≤ hi ∧ cst pr (NN w) (NN k) rd = some rd1 ∧ opB x hi m = some m1 ∧ AH T n rd1 m1 pl' q' ∧ pl ≤ pl' ∧ FR1 rd rd1 ∧ FM1 m m1 ∧ Rd_parts rd1 = upd (Rd_parts rd) k (NN V) ∧ Rd_wantedPlaces rd1 = Rd_wantedPlaces rd ∧ Rd_toldData rd1 = Rd_toldData rd ∧ M_cd m1 = cB (M_cd m) x (NN V) ∧ M_hasData (M_rd m1) = M_hasData (M_rd m)) ∨
    (∃ rd1 m1, cst pr (NN w) (NN k) rd = some rd1 ∧ opB x hi m = some m1 ∧ BD T n rd1 m1 ∧ FR1 rd rd1 ∧ FM1 m m1 ∧ M_cd m1 = cB (M_cd m) x (NN 0) ∧ M_hasData (M_rd m1) = M_hasData (M_rd m)) := by
  rcases num_step h pr hw hk hs hp with ⟨rd1, m1, V, pl', q', v1, v2, a1, a2, a3, a4, a5, a6, a7, a8, a9, a10, a11, a12⟩ | ⟨rd1, m1, a1, a2, a3, a4, a5, a6, a7⟩
  · refine Or.inl ⟨rd1, sC m1 (cB (M_cd m1) x (NN V)), V, pl', q', v2, a1, ?_, a3, by omega, a6, a7, a8, a9, a10, by rw [← a11]; rfl, a12⟩
    unfold opB
    exact s_bd2 a2 rfl
  · refine Or.inr ⟨rd1, sC m1 (cB (M_cd m1) x (NN 0)), a1, ?_, a3, a4, a5, by rw [← a6]; rfl, a7⟩
    unfold opB
    exact s_bd2 a2 rfl
theorem BB {T : Nat → Nat} {n : Nat} {rd : T_Rd} {m : T_M} (h : BD T n rd m) (pr : T_Pg) (w k : Int32) (x hi : Nat) : ∃ m1, cst pr w k rd = some rd ∧ opB x hi m = some m1 ∧ BD T n rd m1 ∧ FM1 m m1 ∧ M_cd m1 = cB (M_cd m) x (NN 0) ∧ M_hasData (M_rd m1) = M_hasData (M_rd m) := by
  obtain ⟨f, hf, h1, h2⟩ := BD_fault h
  refine ⟨sC m (cB (M_cd m) x (NN 0)), cst_bad h1 hf, ?_, h, ⟨rfl, rfl, rfl, rfl, rfl, rfl, rfl, rfl, rfl⟩, rfl, rfl⟩
  unfold opB
  exact s_bd2 (M_nahB h2 hf (NN 0) (NN hi)).2 rfl
theorem JC {T : Nat → Nat} {n : Nat} {rd : T_Rd} {m : T_M} {pl q : Nat} (h : AH T n rd m pl q) (pr : T_Pg) {w k s hi : Nat} (x : Nat) (hw : w < 25) (hk : k < 3) (hs : Rd_sorts rd (3 * w + k) = NN s) (hp : PLN s 0 hi) :
    (∃ rd1 m1 V pl' q', V ≤ hi ∧ cst pr (NN w) (NN k) rd = some rd1 ∧ opC x hi m = some m1 ∧ AH T n rd1 m1 pl' q' ∧ pl ≤ pl' ∧ FR1 rd rd1 ∧ FM1 m m1 ∧ Rd_parts rd1 = upd (Rd_parts rd) k (NN V) ∧ Rd_wantedPlaces rd1 = Rd_wantedPlaces rd ∧ Rd_toldData rd1 = Rd_toldData rd ∧ M_cd m1 = cC (M_cd m) x (NN V) ∧ M_hasData (M_rd m1) = M_hasData (M_rd m)) ∨
    (∃ rd1 m1, cst pr (NN w) (NN k) rd = some rd1 ∧ opC x hi m = some m1 ∧ BD T n rd1 m1 ∧ FR1 rd rd1 ∧ FM1 m m1 ∧ M_cd m1 = cC (M_cd m) x (NN 0) ∧ M_hasData (M_rd m1) = M_hasData (M_rd m)) := by
  rcases num_step h pr hw hk hs hp with ⟨rd1, m1, V, pl', q', v1, v2, a1, a2, a3, a4, a5, a6, a7, a8, a9, a10, a11, a12⟩ | ⟨rd1, m1, a1, a2, a3, a4, a5, a6, a7⟩
  · refine Or.inl ⟨rd1, sC m1 (cC (M_cd m1) x (NN V)), V, pl', q', v2, a1, ?_, a3, by omega, a6, a7, a8, a9, a10, by rw [← a11]; rfl, a12⟩
    unfold opC
    exact s_bd2 a2 rfl
  · refine Or.inr ⟨rd1, sC m1 (cC (M_cd m1) x (NN 0)), a1, ?_, a3, a4, a5, by rw [← a6]; rfl, a7⟩
    unfold opC
    exact s_bd2 a2 rfl
theorem BC {T : Nat → Nat} {n : Nat} {rd : T_Rd} {m : T_M} (h : BD T n rd m) (pr : T_Pg) (w k : Int32) (x hi : Nat) : ∃ m1, cst pr w k rd = some rd ∧ opC x hi m = some m1 ∧ BD T n rd m1 ∧ FM1 m m1 ∧ M_cd m1 = cC (M_cd m) x (NN 0) ∧ M_hasData (M_rd m1) = M_hasData (M_rd m) := by
  obtain ⟨f, hf, h1, h2⟩ := BD_fault h
  refine ⟨sC m (cC (M_cd m) x (NN 0)), cst_bad h1 hf, ?_, h, ⟨rfl, rfl, rfl, rfl, rfl, rfl, rfl, rfl, rfl⟩, rfl, rfl⟩
  unfold opC
  exact s_bd2 (M_nahB h2 hf (NN 0) (NN hi)).2 rfl
abbrev F9 (v : T_M) (sz : Nat) : T_M := sC v (upd (M_number (M_cd v)) 18 (NN (sz + 1)), (M_codeSort (M_cd v)), (M_codeA (M_cd v)), (M_codeB (M_cd v)), (M_codeC (M_cd v)), (M_codeName (M_cd v)), (M_codePlace (M_cd v)), (M_codeTo (M_cd v)), (M_labelName (M_cd v)), (M_labelAt (M_cd v)), (M_data (M_cd v)))
theorem fin8_eq {v : T_M} {sz : Nat} (h8 : M_number (M_cd v) 18 = NN sz) : fin8 v = some (F9 v sz) := by
  have e8 : f_M_reading v (8 : Int32) = some (NN sz) := (M_reading1 (k := 8) (by decide)).trans (congrArg some h8)
  unfold fin8
  with_reducible refine s_bd e8 ?_
  rw [show NN sz + (1 : Int32) = NN (sz + 1) from n_add sz 1]
  have e9 : f_M_reads v (8 : Int32) (NN (sz + 1)) = some (sC v (upd (M_number (M_cd v)) 18 (NN (sz + 1)), (M_codeSort (M_cd v)), (M_codeA (M_cd v)), (M_codeB (M_cd v)), (M_codeC (M_cd v)), (M_codeName (M_cd v)), (M_codePlace (M_cd v)), (M_codeTo (M_cd v)), (M_labelName (M_cd v)), (M_labelAt (M_cd v)), (M_data (M_cd v)))) := by
    unfold f_M_reads
    repeat first | (with_reducible refine s_nmj1 ?_) | (with_reducible refine s_nmj2 ?_) | ((with_reducible refine s_nm ?_); intro y_ hy_; (try simp (disch := omega) only [n_lit, n_add, n_mul, n_sub, n_tn, n_ltT, n_ltF, n_leT, n_leF, n_eqT, n_eqF, n_div, n_ixT, n_ixF, n_not, n_md, n_dec, n_and1, n_and3, n_and7, n_and15, n_and31, n_and63, Nat.mod_eq_of_lt, Nat.zero_add, Nat.add_zero, Nat.zero_mul, Nat.sub_zero, not_false_eq_true, not_true_eq_false, upd_at, upd_ne] at hy_); subst hy_) | ((with_reducible refine s_pos ?_ ?_); · simp (disch := omega) only [n_lit, n_add, n_mul, n_sub, n_tn, n_ltT, n_ltF, n_leT, n_leF, n_eqT, n_eqF, n_div, n_ixT, n_ixF, n_not, n_md, n_dec, n_and1, n_and3, n_and7, n_and15, n_and31, n_and63, Nat.mod_eq_of_lt, Nat.zero_add, Nat.add_zero, Nat.zero_mul, Nat.sub_zero, not_false_eq_true, not_true_eq_false, upd_at, upd_ne]) | ((with_reducible refine s_neg ?_ ?_); · simp (disch := omega) only [n_lit, n_add, n_mul, n_sub, n_tn, n_ltT, n_ltF, n_leT, n_leF, n_eqT, n_eqF, n_div, n_ixT, n_ixF, n_not, n_md, n_dec, n_and1, n_and3, n_and7, n_and15, n_and31, n_and63, Nat.mod_eq_of_lt, Nat.zero_add, Nat.add_zero, Nat.zero_mul, Nat.sub_zero, not_false_eq_true, not_true_eq_false, upd_at, upd_ne]) 
    rfl
  with_reducible refine s_bd e9 ?_
  rfl
theorem C_wnK {rd : T_Rd} (hw : WD rd) {k : Nat} (hk : k < 25) : ∃ j, j < 25 ∧ f_Rd_wordNumber rd (NN (WP k)) = some (NN j) := by
  rcases C_wordNumber hw (NN (WP k)) with ⟨j, j1, j2, j3⟩ | ⟨j1, j2⟩
  · exact ⟨j, j1, j3⟩
  · exact absurd rfl (j1 k hk)
theorem C_wnN {rd : T_Rd} (hw : WD rd) {V : Nat} (hV : V < 1073741824) (hn : ∀ k, k < 25 → V ≠ WP k) : f_Rd_wordNumber rd (NN V) = some (-1) := by
  rcases C_wordNumber hw (NN V) with ⟨j, j1, j2, j3⟩ | ⟨j1, j2⟩
  · exact absurd (n_inj (by omega) (by have := WP_lt j j1; omega) j2) (hn j j1)
  · exact j2
/-- a name at hand, or not -/
theorem TK_name {tok val sort value : Int32} {T : Nat → Nat} {n pl q : Nat} (h : TK tok val sort value T n pl q) :
    (∃ V, V < 1073741824 ∧ tok = NN 1 ∧ val = NN V ∧ (∀ k, k < 25 → V ≠ WP k) ∧ sort = NN 1 ∧ value = NN V ∧ small T pl ∧ pl < q) ∨ ((∃ s, s ≠ 1 ∧ s < 10 ∧ sort = NN s) ∧ ((∃ t, t ≠ 1 ∧ t < 10 ∧ tok = NN t) ∨ (tok = NN 1 ∧ val = -NN 1) ∨ (∃ k, k < 25 ∧ tok = NN 1 ∧ val = NN (WP k)))) := by
  rcases h with ⟨-, rfl, rfl⟩ | ⟨k, hk, rfl, rfl, rfl, -⟩ | ⟨V, v1, rfl, rfl, v2, rfl, rfl, v3, v4⟩ | ⟨rfl, rfl, rfl, -⟩ | ⟨W, w1, rfl, rfl, rfl, rfl, w2⟩ | ⟨rfl, rfl, -⟩ | ⟨rfl, rfl, -⟩
  · exact Or.inr ⟨⟨4, by omega, by omega, rfl⟩, Or.inl ⟨0, by omega, by omega, rfl⟩⟩
  · exact Or.inr ⟨⟨0, by omega, by omega, rfl⟩, Or.inr (Or.inr ⟨k, hk, rfl, rfl⟩)⟩
  · exact Or.inl ⟨V, v1, rfl, rfl, v2, rfl, rfl, v3, v4⟩
  · exact Or.inr ⟨⟨5, by omega, by omega, rfl⟩, Or.inr (Or.inl ⟨rfl, rfl⟩)⟩
  · exact Or.inr ⟨⟨2, by omega, by omega, rfl⟩, Or.inl ⟨2, by omega, by omega, rfl⟩⟩
  · exact Or.inr ⟨⟨3, by omega, by omega, rfl⟩, Or.inl ⟨3, by omega, by omega, rfl⟩⟩
  · exact Or.inr ⟨⟨5, by omega, by omega, rfl⟩, Or.inl ⟨4, by omega, by omega, rfl⟩⟩
theorem C_notName {v : T_Rd} {pr : T_Pg} {s : Nat} (hw : WD v) (hs : s = 110 ∨ s = 119) (k : Int32) (h : (∃ t, t ≠ 1 ∧ t < 10 ∧ Rd_token v = NN t) ∨ (Rd_token v = NN 1 ∧ Rd_value v = -NN 1) ∨ (∃ k, k < 25 ∧ Rd_token v = NN 1 ∧ Rd_value v = NN (WP k))) : f_Rd_readPart v pr (NN s) k = some (wR v (NN 1) (Rd_place v)) := by
  have e : f_Rd_readName v pr (NN s) = some (wR v (NN 1) (Rd_place v)) := by
    unfold f_Rd_readName
    rcases h with ⟨t, t1, t2, t3⟩ | ⟨t1, t2⟩ | ⟨k, k1, k2, k3⟩
    · repeat first | (with_reducible refine s_nmj1 ?_) | (with_reducible refine s_nmj2 ?_) | ((with_reducible refine s_nm ?_); intro y_ hy_; (try simp (disch := omega) only [n_lit, n_add, n_mul, n_sub, n_tn, n_ltT, n_ltF, n_leT, n_leF, n_eqT, n_eqF, n_div, n_ixT, n_ixF, n_not, n_md, n_dec, n_and1, n_and3, n_and7, n_and15, n_and31, n_and63, Nat.mod_eq_of_lt, Nat.zero_add, Nat.add_zero, Nat.zero_mul, Nat.sub_zero, not_false_eq_true, not_true_eq_false, upd_at, upd_ne, t3] at hy_); subst hy_) | ((with_reducible refine s_pos ?_ ?_); · simp (disch := omega) only [n_lit, n_add, n_mul, n_sub, n_tn, n_ltT, n_ltF, n_leT, n_leF, n_eqT, n_eqF, n_div, n_ixT, n_ixF, n_not, n_md, n_dec, n_and1, n_and3, n_and7, n_and15, n_and31, n_and63, Nat.mod_eq_of_lt, Nat.zero_add, Nat.add_zero, Nat.zero_mul, Nat.sub_zero, not_false_eq_true, not_true_eq_false, upd_at, upd_ne, t3]) | ((with_reducible refine s_neg ?_ ?_); · simp (disch := omega) only [n_lit, n_add, n_mul, n_sub, n_tn, n_ltT, n_ltF, n_leT, n_leF, n_eqT, n_eqF, n_div, n_ixT, n_ixF, n_not, n_md, n_dec, n_and1, n_and3, n_and7, n_and15, n_and31, n_and63, Nat.mod_eq_of_lt, Nat.zero_add, Nat.add_zero, Nat.zero_mul, Nat.sub_zero, not_false_eq_true, not_true_eq_false, upd_at, upd_ne, t3])  | (with_reducible refine s_bd (C_fail _ _ _) ?_)
      rfl
    · repeat first | (with_reducible refine s_nmj1 ?_) | (with_reducible refine s_nmj2 ?_) | ((with_reducible refine s_nm ?_); intro y_ hy_; (try simp (disch := omega) only [n_lit, n_add, n_mul, n_sub, n_tn, n_ltT, n_ltF, n_leT, n_leF, n_eqT, n_eqF, n_div, n_ixT, n_ixF, n_not, n_md, n_dec, n_and1, n_and3, n_and7, n_and15, n_and31, n_and63, Nat.mod_eq_of_lt, Nat.zero_add, Nat.add_zero, Nat.zero_mul, Nat.sub_zero, not_false_eq_true, not_true_eq_false, upd_at, upd_ne, t1] at hy_); subst hy_) | ((with_reducible refine s_pos ?_ ?_); · simp (disch := omega) only [n_lit, n_add, n_mul, n_sub, n_tn, n_ltT, n_ltF, n_leT, n_leF, n_eqT, n_eqF, n_div, n_ixT, n_ixF, n_not, n_md, n_dec, n_and1, n_and3, n_and7, n_and15, n_and31, n_and63, Nat.mod_eq_of_lt, Nat.zero_add, Nat.add_zero, Nat.zero_mul, Nat.sub_zero, not_false_eq_true, not_true_eq_false, upd_at, upd_ne, t1]) | ((with_reducible refine s_neg ?_ ?_); · simp (disch := omega) only [n_lit, n_add, n_mul, n_sub, n_tn, n_ltT, n_ltF, n_leT, n_leF, n_eqT, n_eqF, n_div, n_ixT, n_ixF, n_not, n_md, n_dec, n_and1, n_and3, n_and7, n_and15, n_and31, n_and63, Nat.mod_eq_of_lt, Nat.zero_add, Nat.add_zero, Nat.zero_mul, Nat.sub_zero, not_false_eq_true, not_true_eq_false, upd_at, upd_ne, t1])  | ((with_reducible refine s_pos ?_ ?_); · exact t2) | (with_reducible refine s_bd (C_fail _ _ _) ?_)
      rfl
    · obtain ⟨j, j1, j2⟩ := C_wnK hw k1
      have z1 := n_negF (a := WP k) (b := 1) (by have := WP_lt k k1; omega) (by omega)
      have z2 := n_negF (a := j) (b := 1) (by omega) (by omega)
      rw [← k3] at j2
      repeat first | (with_reducible refine s_nmj1 ?_) | (with_reducible refine s_nmj2 ?_) | ((with_reducible refine s_nm ?_); intro y_ hy_; (try simp (disch := omega) only [n_lit, n_add, n_mul, n_sub, n_tn, n_ltT, n_ltF, n_leT, n_leF, n_eqT, n_eqF, n_div, n_ixT, n_ixF, n_not, n_md, n_dec, n_and1, n_and3, n_and7, n_and15, n_and31, n_and63, Nat.mod_eq_of_lt, Nat.zero_add, Nat.add_zero, Nat.zero_mul, Nat.sub_zero, not_false_eq_true, not_true_eq_false, upd_at, upd_ne, k2, k3, z1, z2] at hy_); subst hy_) | ((with_reducible refine s_pos ?_ ?_); · simp (disch := omega) only [n_lit, n_add, n_mul, n_sub, n_tn, n_ltT, n_ltF, n_leT, n_leF, n_eqT, n_eqF, n_div, n_ixT, n_ixF, n_not, n_md, n_dec, n_and1, n_and3, n_and7, n_and15, n_and31, n_and63, Nat.mod_eq_of_lt, Nat.zero_add, Nat.add_zero, Nat.zero_mul, Nat.sub_zero, not_false_eq_true, not_true_eq_false, upd_at, upd_ne, k2, k3, z1, z2]) | ((with_reducible refine s_neg ?_ ?_); · simp (disch := omega) only [n_lit, n_add, n_mul, n_sub, n_tn, n_ltT, n_ltF, n_leT, n_leF, n_eqT, n_eqF, n_div, n_ixT, n_ixF, n_not, n_md, n_dec, n_and1, n_and3, n_and7, n_and15, n_and31, n_and63, Nat.mod_eq_of_lt, Nat.zero_add, Nat.add_zero, Nat.zero_mul, Nat.sub_zero, not_false_eq_true, not_true_eq_false, upd_at, upd_ne, k2, k3, z1, z2])  | (with_reducible refine s_bd j2 ?_) | (with_reducible refine s_bd (C_fail _ _ _) ?_)
      rfl
  unfold f_Rd_readPart
  rcases hs with rfl | rfl
  · repeat first | (with_reducible refine s_nmj1 ?_) | (with_reducible refine s_nmj2 ?_) | ((with_reducible refine s_nm ?_); intro y_ hy_; (try simp (disch := omega) only [n_lit, n_add, n_mul, n_sub, n_tn, n_ltT, n_ltF, n_leT, n_leF, n_eqT, n_eqF, n_div, n_ixT, n_ixF, n_not, n_md, n_dec, n_and1, n_and3, n_and7, n_and15, n_and31, n_and63, Nat.mod_eq_of_lt, Nat.zero_add, Nat.add_zero, Nat.zero_mul, Nat.sub_zero, not_false_eq_true, not_true_eq_false, upd_at, upd_ne] at hy_); subst hy_) | ((with_reducible refine s_pos ?_ ?_); · simp (disch := omega) only [n_lit, n_add, n_mul, n_sub, n_tn, n_ltT, n_ltF, n_leT, n_leF, n_eqT, n_eqF, n_div, n_ixT, n_ixF, n_not, n_md, n_dec, n_and1, n_and3, n_and7, n_and15, n_and31, n_and63, Nat.mod_eq_of_lt, Nat.zero_add, Nat.add_zero, Nat.zero_mul, Nat.sub_zero, not_false_eq_true, not_true_eq_false, upd_at, upd_ne]) | ((with_reducible refine s_neg ?_ ?_); · simp (disch := omega) only [n_lit, n_add, n_mul, n_sub, n_tn, n_ltT, n_ltF, n_leT, n_leF, n_eqT, n_eqF, n_div, n_ixT, n_ixF, n_not, n_md, n_dec, n_and1, n_and3, n_and7, n_and15, n_and31, n_and63, Nat.mod_eq_of_lt, Nat.zero_add, Nat.add_zero, Nat.zero_mul, Nat.sub_zero, not_false_eq_true, not_true_eq_false, upd_at, upd_ne])  | (with_reducible refine s_bd e ?_)
    rfl
  · repeat first | (with_reducible refine s_nmj1 ?_) | (with_reducible refine s_nmj2 ?_) | ((with_reducible refine s_nm ?_); intro y_ hy_; (try simp (disch := omega) only [n_lit, n_add, n_mul, n_sub, n_tn, n_ltT, n_ltF, n_leT, n_leF, n_eqT, n_eqF, n_div, n_ixT, n_ixF, n_not, n_md, n_dec, n_and1, n_and3, n_and7, n_and15, n_and31, n_and63, Nat.mod_eq_of_lt, Nat.zero_add, Nat.add_zero, Nat.zero_mul, Nat.sub_zero, not_false_eq_true, not_true_eq_false, upd_at, upd_ne] at hy_); subst hy_) | ((with_reducible refine s_pos ?_ ?_); · simp (disch := omega) only [n_lit, n_add, n_mul, n_sub, n_tn, n_ltT, n_ltF, n_leT, n_leF, n_eqT, n_eqF, n_div, n_ixT, n_ixF, n_not, n_md, n_dec, n_and1, n_and3, n_and7, n_and15, n_and31, n_and63, Nat.mod_eq_of_lt, Nat.zero_add, Nat.add_zero, Nat.zero_mul, Nat.sub_zero, not_false_eq_true, not_true_eq_false, upd_at, upd_ne]) | ((with_reducible refine s_neg ?_ ?_); · simp (disch := omega) only [n_lit, n_add, n_mul, n_sub, n_tn, n_ltT, n_ltF, n_leT, n_leF, n_eqT, n_eqF, n_div, n_ixT, n_ixF, n_not, n_md, n_dec, n_and1, n_and3, n_and7, n_and15, n_and31, n_and63, Nat.mod_eq_of_lt, Nat.zero_add, Nat.add_zero, Nat.zero_mul, Nat.sub_zero, not_false_eq_true, not_true_eq_false, upd_at, upd_ne])  | (with_reducible refine s_bd e ?_)
    rfl
def nR (rd : T_Rd) (parts wanted : Nat → Int32) : T_Rd := ((Rd_tape rd), (Rd_filled rd), (Rd_fault rd), (Rd_faultPlace rd), (Rd_words rd), (Rd_sorts rd), parts, wanted, (Rd_limit rd), (Rd_position rd), (Rd_token rd), (Rd_value rd), (Rd_place rd), (Rd_toldRules rd), (Rd_toldData rd))
theorem C_nameW {v : T_Rd} {pr : T_Pg} {V sz : Nat} (hw : WD v) (hV : V < 1073741824) (hn : ∀ k, k < 25 → V ≠ WP k) (h1 : Rd_token v = NN 1) (h2 : Rd_value v = NN V) (hsz : Pg_size pr = NN sz) (hsz2 : sz < 40) (k : Int32) :
    f_Rd_readPart v pr (NN 119) k = some (nR v (upd (Rd_parts v) 2 (NN V)) (upd (Rd_wantedPlaces v) sz (Rd_place v))) := by
  have z1 := n_negF (a := V) (b := 1) (by omega) (by omega)
  have e0 := C_wnN hw hV hn
  rw [← h2] at e0
  have e : f_Rd_readName v pr (NN 119) = some (nR v (upd (Rd_parts v) 2 (NN V)) (upd (Rd_wantedPlaces v) sz (Rd_place v))) := by
    unfold f_Rd_readName
    repeat first | (with_reducible refine s_nmj1 ?_) | (with_reducible refine s_nmj2 ?_) | ((with_reducible refine s_nm ?_); intro y_ hy_; (try simp (disch := omega) only [n_lit, n_add, n_mul, n_sub, n_tn, n_ltT, n_ltF, n_leT, n_leF, n_eqT, n_eqF, n_div, n_ixT, n_ixF, n_not, n_md, n_dec, n_and1, n_and3, n_and7, n_and15, n_and31, n_and63, Nat.mod_eq_of_lt, Nat.zero_add, Nat.add_zero, Nat.zero_mul, Nat.sub_zero, not_false_eq_true, not_true_eq_false, upd_at, upd_ne, h1, h2, z1, hsz, Nat.mod_eq_of_lt] at hy_); subst hy_) | ((with_reducible refine s_pos ?_ ?_); · simp (disch := omega) only [n_lit, n_add, n_mul, n_sub, n_tn, n_ltT, n_ltF, n_leT, n_leF, n_eqT, n_eqF, n_div, n_ixT, n_ixF, n_not, n_md, n_dec, n_and1, n_and3, n_and7, n_and15, n_and31, n_and63, Nat.mod_eq_of_lt, Nat.zero_add, Nat.add_zero, Nat.zero_mul, Nat.sub_zero, not_false_eq_true, not_true_eq_false, upd_at, upd_ne, h1, h2, z1, hsz, Nat.mod_eq_of_lt]) | ((with_reducible refine s_neg ?_ ?_); · simp (disch := omega) only [n_lit, n_add, n_mul, n_sub, n_tn, n_ltT, n_ltF, n_leT, n_leF, n_eqT, n_eqF, n_div, n_ixT, n_ixF, n_not, n_md, n_dec, n_and1, n_and3, n_and7, n_and15, n_and31, n_and63, Nat.mod_eq_of_lt, Nat.zero_add, Nat.add_zero, Nat.zero_mul, Nat.sub_zero, not_false_eq_true, not_true_eq_false, upd_at, upd_ne, h1, h2, z1, hsz, Nat.mod_eq_of_lt])  | (with_reducible refine s_bd e0 ?_) | ((with_reducible refine s_pos ?_ ?_); · rfl)
    rfl
  unfold f_Rd_readPart
  repeat first | (with_reducible refine s_nmj1 ?_) | (with_reducible refine s_nmj2 ?_) | ((with_reducible refine s_nm ?_); intro y_ hy_; (try simp (disch := omega) only [n_lit, n_add, n_mul, n_sub, n_tn, n_ltT, n_ltF, n_leT, n_leF, n_eqT, n_eqF, n_div, n_ixT, n_ixF, n_not, n_md, n_dec, n_and1, n_and3, n_and7, n_and15, n_and31, n_and63, Nat.mod_eq_of_lt, Nat.zero_add, Nat.add_zero, Nat.zero_mul, Nat.sub_zero, not_false_eq_true, not_true_eq_false, upd_at, upd_ne] at hy_); subst hy_) | ((with_reducible refine s_pos ?_ ?_); · simp (disch := omega) only [n_lit, n_add, n_mul, n_sub, n_tn, n_ltT, n_ltF, n_leT, n_leF, n_eqT, n_eqF, n_div, n_ixT, n_ixF, n_not, n_md, n_dec, n_and1, n_and3, n_and7, n_and15, n_and31, n_and63, Nat.mod_eq_of_lt, Nat.zero_add, Nat.add_zero, Nat.zero_mul, Nat.sub_zero, not_false_eq_true, not_true_eq_false, upd_at, upd_ne]) | ((with_reducible refine s_neg ?_ ?_); · simp (disch := omega) only [n_lit, n_add, n_mul, n_sub, n_tn, n_ltT, n_ltF, n_leT, n_leF, n_eqT, n_eqF, n_div, n_ixT, n_ixF, n_not, n_md, n_dec, n_and1, n_and3, n_and7, n_and15, n_and31, n_and63, Nat.mod_eq_of_lt, Nat.zero_add, Nat.add_zero, Nat.zero_mul, Nat.sub_zero, not_false_eq_true, not_true_eq_false, upd_at, upd_ne])  | (with_reducible refine s_bd e ?_)
  rfl
abbrev cT (c : T_Mc) (x : Nat) (v p : Int32) : T_Mc := ((M_number c), (M_codeSort c), (M_codeA c), (M_codeB c), (M_codeC c), upd (M_codeName c) x v, upd (M_codePlace c) x p, (M_codeTo c), (M_labelName c), (M_labelAt c), (M_data c))
theorem M_readTarget1 {m m1 : T_M} {x : Nat} (hx : x < 80) (h0 : M_fault (M_rd m) = NN 0) (h1 : M_sort (M_rd m) = NN 1) (eg : f_M_goOn (sC m (cT (M_cd m) x (M_value (M_rd m)) (M_place (M_rd m)))) = some m1) : f_M_readTarget m (NN x) = some m1 := by
  unfold f_M_readTarget
  repeat first | (with_reducible refine s_nmj1 ?_) | (with_reducible refine s_nmj2 ?_) | ((with_reducible refine s_nm ?_); intro y_ hy_; (try simp (disch := omega) only [n_lit, n_add, n_mul, n_sub, n_tn, n_ltT, n_ltF, n_leT, n_leF, n_eqT, n_eqF, n_div, n_ixT, n_ixF, n_not, n_md, n_dec, n_and1, n_and3, n_and7, n_and15, n_and31, n_and63, Nat.mod_eq_of_lt, Nat.zero_add, Nat.add_zero, Nat.zero_mul, Nat.sub_zero, not_false_eq_true, not_true_eq_false, upd_at, upd_ne, h0, h1] at hy_); subst hy_) | ((with_reducible refine s_pos ?_ ?_); · simp (disch := omega) only [n_lit, n_add, n_mul, n_sub, n_tn, n_ltT, n_ltF, n_leT, n_leF, n_eqT, n_eqF, n_div, n_ixT, n_ixF, n_not, n_md, n_dec, n_and1, n_and3, n_and7, n_and15, n_and31, n_and63, Nat.mod_eq_of_lt, Nat.zero_add, Nat.add_zero, Nat.zero_mul, Nat.sub_zero, not_false_eq_true, not_true_eq_false, upd_at, upd_ne, h0, h1]) | ((with_reducible refine s_neg ?_ ?_); · simp (disch := omega) only [n_lit, n_add, n_mul, n_sub, n_tn, n_ltT, n_ltF, n_leT, n_leF, n_eqT, n_eqF, n_div, n_ixT, n_ixF, n_not, n_md, n_dec, n_and1, n_and3, n_and7, n_and15, n_and31, n_and63, Nat.mod_eq_of_lt, Nat.zero_add, Nat.add_zero, Nat.zero_mul, Nat.sub_zero, not_false_eq_true, not_true_eq_false, upd_at, upd_ne, h0, h1])  | (with_reducible refine s_bd eg ?_)
  rfl
theorem M_readTarget0 {m : T_M} {x s : Nat} (hx : x < 80) (h0 : M_fault (M_rd m) = NN 0) (h1 : M_sort (M_rd m) = NN s) (hs : s ≠ 1 ∧ s < 10) : f_M_readTarget m (NN x) = some (sC (wM m (NN 1) (M_place (M_rd m))) (cT (M_cd m) x (M_value (M_rd m)) (M_place (M_rd m)))) := by
  have e1 : f_M_wrong m (1 : Int32) = some (wM m (NN 1) (M_place (M_rd m))) := M_wrong0 h0 (NN 1)
  have eg : f_M_goOn (sC (wM m (NN 1) (M_place (M_rd m))) (cT (M_cd (wM m (NN 1) (M_place (M_rd m)))) x (M_value (M_rd (wM m (NN 1) (M_place (M_rd m))))) (M_place (M_rd (wM m (NN 1) (M_place (M_rd m))))))) = some _ := M_goOnB (f := 1) rfl (by omega)
  unfold f_M_readTarget
  repeat first | (with_reducible refine s_nmj1 ?_) | (with_reducible refine s_nmj2 ?_) | ((with_reducible refine s_nm ?_); intro y_ hy_; (try simp (disch := omega) only [n_lit, n_add, n_mul, n_sub, n_tn, n_ltT, n_ltF, n_leT, n_leF, n_eqT, n_eqF, n_div, n_ixT, n_ixF, n_not, n_md, n_dec, n_and1, n_and3, n_and7, n_and15, n_and31, n_and63, Nat.mod_eq_of_lt, Nat.zero_add, Nat.add_zero, Nat.zero_mul, Nat.sub_zero, not_false_eq_true, not_true_eq_false, upd_at, upd_ne, h0, h1] at hy_); subst hy_) | ((with_reducible refine s_pos ?_ ?_); · simp (disch := omega) only [n_lit, n_add, n_mul, n_sub, n_tn, n_ltT, n_ltF, n_leT, n_leF, n_eqT, n_eqF, n_div, n_ixT, n_ixF, n_not, n_md, n_dec, n_and1, n_and3, n_and7, n_and15, n_and31, n_and63, Nat.mod_eq_of_lt, Nat.zero_add, Nat.add_zero, Nat.zero_mul, Nat.sub_zero, not_false_eq_true, not_true_eq_false, upd_at, upd_ne, h0, h1]) | ((with_reducible refine s_neg ?_ ?_); · simp (disch := omega) only [n_lit, n_add, n_mul, n_sub, n_tn, n_ltT, n_ltF, n_leT, n_leF, n_eqT, n_eqF, n_div, n_ixT, n_ixF, n_not, n_md, n_dec, n_and1, n_and3, n_and7, n_and15, n_and31, n_and63, Nat.mod_eq_of_lt, Nat.zero_add, Nat.add_zero, Nat.zero_mul, Nat.sub_zero, not_false_eq_true, not_true_eq_false, upd_at, upd_ne, h0, h1])  | (with_reducible refine s_bd e1 ?_) | (with_reducible refine s_bd eg ?_)
  rfl
theorem M_readTargetB {m : T_M} {f : Nat} (h : M_fault (M_rd m) = NN f) (hf : f ≠ 0 ∧ f < 10) (x : Int32) : f_M_readTarget m x = some m := by
  unfold f_M_readTarget
  repeat first | (with_reducible refine s_nmj1 ?_) | (with_reducible refine s_nmj2 ?_) | ((with_reducible refine s_nm ?_); intro y_ hy_; (try simp (disch := omega) only [n_lit, n_add, n_mul, n_sub, n_tn, n_ltT, n_ltF, n_leT, n_leF, n_eqT, n_eqF, n_div, n_ixT, n_ixF, n_not, n_md, n_dec, n_and1, n_and3, n_and7, n_and15, n_and31, n_and63, Nat.mod_eq_of_lt, Nat.zero_add, Nat.add_zero, Nat.zero_mul, Nat.sub_zero, not_false_eq_true, not_true_eq_false, upd_at, upd_ne, h] at hy_); subst hy_) | ((with_reducible refine s_pos ?_ ?_); · simp (disch := omega) only [n_lit, n_add, n_mul, n_sub, n_tn, n_ltT, n_ltF, n_leT, n_leF, n_eqT, n_eqF, n_div, n_ixT, n_ixF, n_not, n_md, n_dec, n_and1, n_and3, n_and7, n_and15, n_and31, n_and63, Nat.mod_eq_of_lt, Nat.zero_add, Nat.add_zero, Nat.zero_mul, Nat.sub_zero, not_false_eq_true, not_true_eq_false, upd_at, upd_ne, h]) | ((with_reducible refine s_neg ?_ ?_); · simp (disch := omega) only [n_lit, n_add, n_mul, n_sub, n_tn, n_ltT, n_ltF, n_leT, n_leF, n_eqT, n_eqF, n_div, n_ixT, n_ixF, n_not, n_md, n_dec, n_and1, n_and3, n_and7, n_and15, n_and31, n_and63, Nat.mod_eq_of_lt, Nat.zero_add, Nat.add_zero, Nat.zero_mul, Nat.sub_zero, not_false_eq_true, not_true_eq_false, upd_at, upd_ne, h]) 
  rfl
theorem JT {T : Nat → Nat} {n : Nat} {rd : T_Rd} {m : T_M} {pl q : Nat} (h : AH T n rd m pl q) (hwd : WD rd) (pr : T_Pg) {w k sz : Nat} (hw : w < 25) (hk : k < 3) (hs : Rd_sorts rd (3 * w + k) = NN 119) (hsz : Pg_size pr = NN sz) (hsz2 : sz < 40) :
    (∃ rd1 m1 V pl' q', cst pr (NN w) (NN k) rd = some rd1 ∧ f_M_readTarget m (NN (40 + sz)) = some m1 ∧ AH T n rd1 m1 pl' q' ∧ pl ≤ pl' ∧ pl ≤ 700 ∧ FR1 rd rd1 ∧ FM1 m m1 ∧ Rd_parts rd1 = upd (Rd_parts rd) 2 (NN V) ∧ Rd_wantedPlaces rd1 = upd (Rd_wantedPlaces rd) sz (NN pl) ∧ Rd_toldData rd1 = Rd_toldData rd ∧ M_cd m1 = cT (M_cd m) (40 + sz) (NN V) (NN pl) ∧ M_hasData (M_rd m1) = M_hasData (M_rd m)) ∨
    (∃ rd1 m1 v p, cst pr (NN w) (NN k) rd = some rd1 ∧ f_M_readTarget m (NN (40 + sz)) = some m1 ∧ BD T n rd1 m1 ∧ FR1 rd rd1 ∧ FM1 m m1 ∧ M_cd m1 = cT (M_cd m) (40 + sz) v p ∧ M_hasData (M_rd m1) = M_hasData (M_rd m)) := by
  obtain ⟨pos, tok, val, place, e1, hA⟩ := h
  have hA' := hA
  obtain ⟨h1, h2, h3, h4, h5, h6, h7, h8, h9, h10⟩ := hA'
  have hf : Rd_fault rd = NN 0 := h1
  rcases TK_name h10 with ⟨V, v1, v2, v3, v4, v5, v6, v7, v8⟩ | ⟨⟨s, s1, s2, s3⟩, hb⟩
  · have hc := C_nameW (v := tR rd pos tok val place) (pr := pr) hwd v1 v4 v2 v3 hsz hsz2 (NN k)
    have hA2 : AT T n (tR rd pos tok val place) (sC m (cT (M_cd m) (40 + sz) (M_value (M_rd m)) (M_place (M_rd m)))) pl q := hA
    obtain ⟨q', pl', sort', value', g1, g2, g3⟩ := AT_goOn hA2
    refine Or.inl ⟨_, tM (sC m (cT (M_cd m) (40 + sz) (M_value (M_rd m)) (M_place (M_rd m)))) (NN q') (NN pl') sort' value', V, pl', q', cst_go hw hk hf hs ⟨by omega, by omega⟩ e1 hc, M_readTarget1 (by omega) h2 v5 g1, g2 _ (TP_C h3) h6 h1, by omega, by have := h3.2.2.1; omega, ⟨rfl, rfl, rfl, rfl, rfl, rfl⟩, ⟨rfl, rfl, rfl, rfl, rfl, rfl, rfl, rfl, rfl⟩, rfl, ?_, rfl, ?_, rfl⟩
    · show upd (Rd_wantedPlaces rd) sz (Rd_place (tR rd pos tok val place)) = _
      rw [h8]
    · show cT (M_cd m) (40 + sz) (M_value (M_rd m)) (M_place (M_rd m)) = _
      rw [v6, h9]
  · have hc := C_notName (v := tR rd pos tok val place) (pr := pr) (s := 119) hwd (Or.inr rfl) (NN k) hb
    exact Or.inr ⟨_, _, M_value (M_rd m), M_place (M_rd m), cst_go hw hk hf hs ⟨by omega, by omega⟩ e1 hc, M_readTarget0 (by omega) h2 s3 ⟨s1, s2⟩, AT_bad hA ⟨by omega, by omega⟩, ⟨rfl, rfl, rfl, rfl, rfl, rfl⟩, ⟨rfl, rfl, rfl, rfl, rfl, rfl, rfl, rfl, rfl⟩, rfl, rfl⟩
