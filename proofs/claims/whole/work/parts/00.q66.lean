/-! one THREAD alone: how far it goes -/
theorem C_isHalted' {st : T_St} {pr : T_Pg} {pl c : Nat} (hp : pl < 64) (h1 : St_place st = NN pl) (h2 : Pg_code pr pl = NN c) (hc : c ≤ 17) : f_St_isHalted st pr = some (NN (if c = 0 then 1 else 0)) := by
  unfold f_St_isHalted
  by_cases q : c = 0
  · subst q
    repeat first | (with_reducible refine s_nmj1 ?_) | (with_reducible refine s_nmj2 ?_) | ((with_reducible refine s_nm ?_); intro y_ hy_; (try simp (disch := omega) only [n_lit, n_add, n_mul, n_sub, n_tn, n_ltT, n_ltF, n_leT, n_leF, n_eqT, n_eqF, n_div, n_ixT, n_ixF, n_not, n_md, n_dec, n_and1, n_and3, n_and7, n_and15, n_and31, n_and63, Nat.mod_eq_of_lt, Nat.zero_add, Nat.add_zero, Nat.zero_mul, Nat.sub_zero, not_false_eq_true, not_true_eq_false, upd_at, upd_ne, h1, h2, Nat.mod_eq_of_lt] at hy_); subst hy_) | ((with_reducible refine s_pos ?_ ?_); · simp (disch := omega) only [n_lit, n_add, n_mul, n_sub, n_tn, n_ltT, n_ltF, n_leT, n_leF, n_eqT, n_eqF, n_div, n_ixT, n_ixF, n_not, n_md, n_dec, n_and1, n_and3, n_and7, n_and15, n_and31, n_and63, Nat.mod_eq_of_lt, Nat.zero_add, Nat.add_zero, Nat.zero_mul, Nat.sub_zero, not_false_eq_true, not_true_eq_false, upd_at, upd_ne, h1, h2, Nat.mod_eq_of_lt]) | ((with_reducible refine s_neg ?_ ?_); · simp (disch := omega) only [n_lit, n_add, n_mul, n_sub, n_tn, n_ltT, n_ltF, n_leT, n_leF, n_eqT, n_eqF, n_div, n_ixT, n_ixF, n_not, n_md, n_dec, n_and1, n_and3, n_and7, n_and15, n_and31, n_and63, Nat.mod_eq_of_lt, Nat.zero_add, Nat.add_zero, Nat.zero_mul, Nat.sub_zero, not_false_eq_true, not_true_eq_false, upd_at, upd_ne, h1, h2, Nat.mod_eq_of_lt]) 
    rfl
  · rw [if_neg q]
    repeat first | (with_reducible refine s_nmj1 ?_) | (with_reducible refine s_nmj2 ?_) | ((with_reducible refine s_nm ?_); intro y_ hy_; (try simp (disch := omega) only [n_lit, n_add, n_mul, n_sub, n_tn, n_ltT, n_ltF, n_leT, n_leF, n_eqT, n_eqF, n_div, n_ixT, n_ixF, n_not, n_md, n_dec, n_and1, n_and3, n_and7, n_and15, n_and31, n_and63, Nat.mod_eq_of_lt, Nat.zero_add, Nat.add_zero, Nat.zero_mul, Nat.sub_zero, not_false_eq_true, not_true_eq_false, upd_at, upd_ne, h1, h2, Nat.mod_eq_of_lt] at hy_); subst hy_) | ((with_reducible refine s_pos ?_ ?_); · simp (disch := omega) only [n_lit, n_add, n_mul, n_sub, n_tn, n_ltT, n_ltF, n_leT, n_leF, n_eqT, n_eqF, n_div, n_ixT, n_ixF, n_not, n_md, n_dec, n_and1, n_and3, n_and7, n_and15, n_and31, n_and63, Nat.mod_eq_of_lt, Nat.zero_add, Nat.add_zero, Nat.zero_mul, Nat.sub_zero, not_false_eq_true, not_true_eq_false, upd_at, upd_ne, h1, h2, Nat.mod_eq_of_lt]) | ((with_reducible refine s_neg ?_ ?_); · simp (disch := omega) only [n_lit, n_add, n_mul, n_sub, n_tn, n_ltT, n_ltF, n_leT, n_leF, n_eqT, n_eqF, n_div, n_ixT, n_ixF, n_not, n_md, n_dec, n_and1, n_and3, n_and7, n_and15, n_and31, n_and63, Nat.mod_eq_of_lt, Nat.zero_add, Nat.add_zero, Nat.zero_mul, Nat.sub_zero, not_false_eq_true, not_true_eq_false, upd_at, upd_ne, h1, h2, Nat.mod_eq_of_lt]) 
    rfl
theorem sim_as {al : T_Al} {v : T_M} {pr : T_Pg} {pl n no nn c a b d : Nat} (hp : pl < 40) (h : RLal al v pl n no) (hn : n < 999) (hI : IS pr v pl c a b d) (hc : c ≠ 0) : AS al v pr pl n no := by
  have h17 := hI.1.1
  rcases (by omega : c = 1 ∨ c = 2 ∨ c = 3 ∨ c = 4 ∨ c = 5 ∨ c = 6 ∨ c = 7 ∨ c = 8 ∨ c = 9 ∨ c = 10 ∨ c = 11 ∨ c = 12 ∨ c = 13 ∨ c = 14 ∨ 15 ≤ c) with q | q | q | q | q | q | q | q | q | q | q | q | q | q | q
  · subst q; exact as_set hp h hn hI
  · subst q; exact as_add hp h hn hI
  · subst q; exact as_sub hp h hn hI
  · subst q; exact as_mul hp h hn hI
  · subst q; exact as_xor hp h hn hI
  · subst q; exact as_load hp h hn hI
  · subst q; exact as_store hp h hn hI
  · subst q; exact as_out hp h hn hI
  · subst q; exact as_real hp h hn hI
  · subst q; exact as_whole hp h hn hI
  · subst q; exact as_bits hp h hn hI
  · subst q; exact as_plus hp h hn hI
  · subst q; exact as_times hp h hn hI
  · subst q; exact as_jump hp h hn hI
  · exact as_goes hp h hn hI ⟨q, h17⟩
theorem mA_mA (v : T_M) (a b : T_Ml) : mA (mA v a) b = mA v b := rfl
theorem al_loop {pr : T_Pg} {v0 : T_M} {nn : Nat} (hcd : RCd pr v0 nn) {T : Nat} (hT : T ≤ 999) (k1 : T_Al → Option T_Al) (k2 : T_M → Option T_M) :
    ∀ d i n1 n2 al a pl no, i + d = T → d < n1 → d < n2 → RLal al (mA v0 a) pl i no → ∃ al' a' pl' n' no', f_Al_run_L2 pr (NN T) k1 n1 (NN i) al = k1 al' ∧ f_M_aloneGoes_L10 (NN T) k2 n2 (mA v0 a) = k2 (mA v0 a') ∧ RLal al' (mA v0 a') pl' n' no' := by
  intro d
  induction d with
  | zero =>
    intro i n1 n2 al a pl no hi h1 h2 h
    obtain ⟨n1, rfl⟩ : ∃ q, n1 = q + 1 := ⟨n1 - 1, by omega⟩
    obtain ⟨n2, rfl⟩ : ∃ q, n2 = q + 1 := ⟨n2 - 1, by omega⟩
    obtain rfl : i = T := by omega
    have e := h.2.1.2.1
    refine ⟨al, a, pl, i, no, ?_, ?_, h⟩
    · rw [f_Al_run_L2]
      repeat first | (with_reducible refine s_nmj1 ?_) | (with_reducible refine s_nmj2 ?_) | ((with_reducible refine s_nm ?_); intro y_ hy_; (try simp (disch := omega) only [n_lit, n_add, n_mul, n_sub, n_tn, n_ltT, n_ltF, n_leT, n_leF, n_eqT, n_eqF, n_div, n_ixT, n_ixF, n_not, n_md, n_dec, n_and1, n_and3, n_and7, n_and15, n_and31, n_and63, Nat.mod_eq_of_lt, Nat.zero_add, Nat.add_zero, Nat.zero_mul, Nat.sub_zero, not_false_eq_true, not_true_eq_false, upd_at, upd_ne] at hy_); subst hy_) | ((with_reducible refine s_pos ?_ ?_); · simp (disch := omega) only [n_lit, n_add, n_mul, n_sub, n_tn, n_ltT, n_ltF, n_leT, n_leF, n_eqT, n_eqF, n_div, n_ixT, n_ixF, n_not, n_md, n_dec, n_and1, n_and3, n_and7, n_and15, n_and31, n_and63, Nat.mod_eq_of_lt, Nat.zero_add, Nat.add_zero, Nat.zero_mul, Nat.sub_zero, not_false_eq_true, not_true_eq_false, upd_at, upd_ne]) | ((with_reducible refine s_neg ?_ ?_); · simp (disch := omega) only [n_lit, n_add, n_mul, n_sub, n_tn, n_ltT, n_ltF, n_leT, n_leF, n_eqT, n_eqF, n_div, n_ixT, n_ixF, n_not, n_md, n_dec, n_and1, n_and3, n_and7, n_and15, n_and31, n_and63, Nat.mod_eq_of_lt, Nat.zero_add, Nat.add_zero, Nat.zero_mul, Nat.sub_zero, not_false_eq_true, not_true_eq_false, upd_at, upd_ne]) 
      rfl
    · rw [f_M_aloneGoes_L10]
      repeat first | (with_reducible refine s_nmj1 ?_) | (with_reducible refine s_nmj2 ?_) | ((with_reducible refine s_nm ?_); intro y_ hy_; (try simp (disch := omega) only [n_lit, n_add, n_mul, n_sub, n_tn, n_ltT, n_ltF, n_leT, n_leF, n_eqT, n_eqF, n_div, n_ixT, n_ixF, n_not, n_md, n_dec, n_and1, n_and3, n_and7, n_and15, n_and31, n_and63, Nat.mod_eq_of_lt, Nat.zero_add, Nat.add_zero, Nat.zero_mul, Nat.sub_zero, not_false_eq_true, not_true_eq_false, upd_at, upd_ne, e] at hy_); subst hy_) | ((with_reducible refine s_pos ?_ ?_); · simp (disch := omega) only [n_lit, n_add, n_mul, n_sub, n_tn, n_ltT, n_ltF, n_leT, n_leF, n_eqT, n_eqF, n_div, n_ixT, n_ixF, n_not, n_md, n_dec, n_and1, n_and3, n_and7, n_and15, n_and31, n_and63, Nat.mod_eq_of_lt, Nat.zero_add, Nat.add_zero, Nat.zero_mul, Nat.sub_zero, not_false_eq_true, not_true_eq_false, upd_at, upd_ne, e]) | ((with_reducible refine s_neg ?_ ?_); · simp (disch := omega) only [n_lit, n_add, n_mul, n_sub, n_tn, n_ltT, n_ltF, n_leT, n_leF, n_eqT, n_eqF, n_div, n_ixT, n_ixF, n_not, n_md, n_dec, n_and1, n_and3, n_and7, n_and15, n_and31, n_and63, Nat.mod_eq_of_lt, Nat.zero_add, Nat.add_zero, Nat.zero_mul, Nat.sub_zero, not_false_eq_true, not_true_eq_false, upd_at, upd_ne, e]) 
      rfl
  | succ d ih =>
    intro i n1 n2 al a pl no hi h1 h2 h
    obtain ⟨n1, rfl⟩ : ∃ q, n1 = q + 1 := ⟨n1 - 1, by omega⟩
    obtain ⟨n2, rfl⟩ : ∃ q, n2 = q + 1 := ⟨n2 - 1, by omega⟩
    have e := h.2.1.2.1
    obtain ⟨p1, p2, p3⟩ := h.1
    obtain ⟨c, hc17, hc⟩ := code_at hcd p3
    have eC := C_isHalted' p3 p1 hc hc17
    have eM := M_isHaltedAt (v := mA v0 a) (pr := pr) (n := nn) hcd p3 hc hc17
    by_cases q : c = 0
    · rw [if_pos q] at eC eM
      refine ⟨al, a, pl, i, no, ?_, ?_, h⟩
      · rw [f_Al_run_L2]
        repeat first | (with_reducible refine s_nmj1 ?_) | (with_reducible refine s_nmj2 ?_) | ((with_reducible refine s_nm ?_); intro y_ hy_; (try simp (disch := omega) only [n_lit, n_add, n_mul, n_sub, n_tn, n_ltT, n_ltF, n_leT, n_leF, n_eqT, n_eqF, n_div, n_ixT, n_ixF, n_not, n_md, n_dec, n_and1, n_and3, n_and7, n_and15, n_and31, n_and63, Nat.mod_eq_of_lt, Nat.zero_add, Nat.add_zero, Nat.zero_mul, Nat.sub_zero, not_false_eq_true, not_true_eq_false, upd_at, upd_ne] at hy_); subst hy_) | ((with_reducible refine s_pos ?_ ?_); · simp (disch := omega) only [n_lit, n_add, n_mul, n_sub, n_tn, n_ltT, n_ltF, n_leT, n_leF, n_eqT, n_eqF, n_div, n_ixT, n_ixF, n_not, n_md, n_dec, n_and1, n_and3, n_and7, n_and15, n_and31, n_and63, Nat.mod_eq_of_lt, Nat.zero_add, Nat.add_zero, Nat.zero_mul, Nat.sub_zero, not_false_eq_true, not_true_eq_false, upd_at, upd_ne]) | ((with_reducible refine s_neg ?_ ?_); · simp (disch := omega) only [n_lit, n_add, n_mul, n_sub, n_tn, n_ltT, n_ltF, n_leT, n_leF, n_eqT, n_eqF, n_div, n_ixT, n_ixF, n_not, n_md, n_dec, n_and1, n_and3, n_and7, n_and15, n_and31, n_and63, Nat.mod_eq_of_lt, Nat.zero_add, Nat.add_zero, Nat.zero_mul, Nat.sub_zero, not_false_eq_true, not_true_eq_false, upd_at, upd_ne])  | (with_reducible refine s_bd eC ?_)
        rfl
      · rw [f_M_aloneGoes_L10]
        repeat first | (with_reducible refine s_nmj1 ?_) | (with_reducible refine s_nmj2 ?_) | ((with_reducible refine s_nm ?_); intro y_ hy_; (try simp (disch := omega) only [n_lit, n_add, n_mul, n_sub, n_tn, n_ltT, n_ltF, n_leT, n_leF, n_eqT, n_eqF, n_div, n_ixT, n_ixF, n_not, n_md, n_dec, n_and1, n_and3, n_and7, n_and15, n_and31, n_and63, Nat.mod_eq_of_lt, Nat.zero_add, Nat.add_zero, Nat.zero_mul, Nat.sub_zero, not_false_eq_true, not_true_eq_false, upd_at, upd_ne, e] at hy_); subst hy_) | ((with_reducible refine s_pos ?_ ?_); · simp (disch := omega) only [n_lit, n_add, n_mul, n_sub, n_tn, n_ltT, n_ltF, n_leT, n_leF, n_eqT, n_eqF, n_div, n_ixT, n_ixF, n_not, n_md, n_dec, n_and1, n_and3, n_and7, n_and15, n_and31, n_and63, Nat.mod_eq_of_lt, Nat.zero_add, Nat.add_zero, Nat.zero_mul, Nat.sub_zero, not_false_eq_true, not_true_eq_false, upd_at, upd_ne, e]) | ((with_reducible refine s_neg ?_ ?_); · simp (disch := omega) only [n_lit, n_add, n_mul, n_sub, n_tn, n_ltT, n_ltF, n_leT, n_leF, n_eqT, n_eqF, n_div, n_ixT, n_ixF, n_not, n_md, n_dec, n_and1, n_and3, n_and7, n_and15, n_and31, n_and63, Nat.mod_eq_of_lt, Nat.zero_add, Nat.add_zero, Nat.zero_mul, Nat.sub_zero, not_false_eq_true, not_true_eq_false, upd_at, upd_ne, e])  | ((with_reducible refine s_bd (Eq.trans ?_ eM) ?_); · rw [p2])
        rfl
    · rw [if_neg q] at eC eM
      obtain ⟨x1, x2, x3, hpn, hI⟩ := IS_of hcd p3 hc hc17 q
      have hI' : IS pr (mA v0 a) pl c x1 x2 x3 := hI
      obtain ⟨al', rg, fl, mm, ou, pl', no', f1, f2, f3⟩ := sim_as (nn := nn) (by have := hcd.1; omega) h (by omega) hI' q
      obtain ⟨al2, a2, pl2, n2', no2, g1, g2, g3⟩ := ih (i + 1) n1 n2 al' (NN pl', NN (i + 1), NN no', rg, fl, mm, ou) pl' no' (by omega) (by omega) (by omega) f3
      refine ⟨al2, a2, pl2, n2', no2, ?_, ?_, g3⟩
      · rw [← g1, f_Al_run_L2]
        repeat first | (with_reducible refine s_nmj1 ?_) | (with_reducible refine s_nmj2 ?_) | ((with_reducible refine s_nm ?_); intro y_ hy_; (try simp (disch := omega) only [n_lit, n_add, n_mul, n_sub, n_tn, n_ltT, n_ltF, n_leT, n_leF, n_eqT, n_eqF, n_div, n_ixT, n_ixF, n_not, n_md, n_dec, n_and1, n_and3, n_and7, n_and15, n_and31, n_and63, Nat.mod_eq_of_lt, Nat.zero_add, Nat.add_zero, Nat.zero_mul, Nat.sub_zero, not_false_eq_true, not_true_eq_false, upd_at, upd_ne] at hy_); subst hy_) | ((with_reducible refine s_pos ?_ ?_); · simp (disch := omega) only [n_lit, n_add, n_mul, n_sub, n_tn, n_ltT, n_ltF, n_leT, n_leF, n_eqT, n_eqF, n_div, n_ixT, n_ixF, n_not, n_md, n_dec, n_and1, n_and3, n_and7, n_and15, n_and31, n_and63, Nat.mod_eq_of_lt, Nat.zero_add, Nat.add_zero, Nat.zero_mul, Nat.sub_zero, not_false_eq_true, not_true_eq_false, upd_at, upd_ne]) | ((with_reducible refine s_neg ?_ ?_); · simp (disch := omega) only [n_lit, n_add, n_mul, n_sub, n_tn, n_ltT, n_ltF, n_leT, n_leF, n_eqT, n_eqF, n_div, n_ixT, n_ixF, n_not, n_md, n_dec, n_and1, n_and3, n_and7, n_and15, n_and31, n_and63, Nat.mod_eq_of_lt, Nat.zero_add, Nat.add_zero, Nat.zero_mul, Nat.sub_zero, not_false_eq_true, not_true_eq_false, upd_at, upd_ne])  | (with_reducible refine s_bd eC ?_) | (with_reducible refine s_bd f1 ?_)
        rfl
      · rw [← g2, f_M_aloneGoes_L10]
        rw [e] at f2
        have e2 : M_aloneSteps (M_al (mA (mA v0 a) (NN pl', NN i, NN no', rg, fl, mm, ou))) = NN i := rfl
        repeat first | (with_reducible refine s_nmj1 ?_) | (with_reducible refine s_nmj2 ?_) | ((with_reducible refine s_nm ?_); intro y_ hy_; (try simp (disch := omega) only [n_lit, n_add, n_mul, n_sub, n_tn, n_ltT, n_ltF, n_leT, n_leF, n_eqT, n_eqF, n_div, n_ixT, n_ixF, n_not, n_md, n_dec, n_and1, n_and3, n_and7, n_and15, n_and31, n_and63, Nat.mod_eq_of_lt, Nat.zero_add, Nat.add_zero, Nat.zero_mul, Nat.sub_zero, not_false_eq_true, not_true_eq_false, upd_at, upd_ne, e, e2] at hy_); subst hy_) | ((with_reducible refine s_pos ?_ ?_); · simp (disch := omega) only [n_lit, n_add, n_mul, n_sub, n_tn, n_ltT, n_ltF, n_leT, n_leF, n_eqT, n_eqF, n_div, n_ixT, n_ixF, n_not, n_md, n_dec, n_and1, n_and3, n_and7, n_and15, n_and31, n_and63, Nat.mod_eq_of_lt, Nat.zero_add, Nat.add_zero, Nat.zero_mul, Nat.sub_zero, not_false_eq_true, not_true_eq_false, upd_at, upd_ne, e, e2]) | ((with_reducible refine s_neg ?_ ?_); · simp (disch := omega) only [n_lit, n_add, n_mul, n_sub, n_tn, n_ltT, n_ltF, n_leT, n_leF, n_eqT, n_eqF, n_div, n_ixT, n_ixF, n_not, n_md, n_dec, n_and1, n_and3, n_and7, n_and15, n_and31, n_and63, Nat.mod_eq_of_lt, Nat.zero_add, Nat.add_zero, Nat.zero_mul, Nat.sub_zero, not_false_eq_true, not_true_eq_false, upd_at, upd_ne, e, e2])  | ((with_reducible refine s_bd (Eq.trans ?_ eM) ?_); · rw [p2]) | ((with_reducible refine s_bd (Eq.trans ?_ f2) ?_); · rw [p2])
        rfl
theorem M_alone1 (v : T_M) : ∃ rg fl mm, (∀ k, k < 8 → rg k = NN 0) ∧ (∀ k, k < 4 → fl k = NN 0) ∧ (∀ k, k < 32 → mm k = M_data (M_cd v) k) ∧
    ∀ x, f_M_alone v x = (bd (f_M_aloneGoes (mA v ((0 : Int32), (M_aloneSteps (M_al v)), (M_aloneOut (M_al v)), rg, fl, mm, (M_aloneOutput (M_al v)))) x) fun (v24 : T_M) => (some v24)) := by
  obtain ⟨rg, e1, h1⟩ : ∃ rg, (∀ k : (Nat → Int32) → Option T_M, f_M_alone_L7 k LF (NN 0) (M_aloneRegister (M_al v)) = k rg) ∧ ∀ k, k < 8 → rg k = NN 0 := by
    refine ⟨fun j => if j < 8 then NN 0 else M_aloneRegister (M_al v) j, fun k => ?_, fun k hk => if_pos hk⟩
    obtain ⟨s', e, h⟩ := loop_from (f_M_alone_L7 k) k (fun x s => ∀ j, s j = if j < x then NN 0 else M_aloneRegister (M_al v) j) 0 8 (n := LF) (s := M_aloneRegister (M_al v))
      (by
        intro n x s _ hx hI
        refine ⟨upd s x (NN 0), ?_, ?_⟩
        · simp only [f_M_alone_L7]
          simp (disch := omega) only [nm, bd_some, bd2_some, bd3_some, n_lit, n_add, n_mul, n_sub, n_tn, n_ltT, n_ltF, n_leT, n_leF, n_eqT, n_eqF, n_div, n_ixT, n_ixF, n_not, n_md, n_dec, n_and1, n_and3, n_and7, n_and15, n_and31, n_and63, Nat.mod_eq_of_lt, Nat.zero_add, Nat.add_zero, Nat.zero_mul, Nat.sub_zero, not_false_eq_true, not_true_eq_false, if_pos, if_neg, false_or, or_false, not_false_eq_true, Nat.not_le, Nat.not_lt, if_true, if_false, Nat.zero_add, Nat.add_zero, Nat.zero_mul, Nat.sub_zero, upd_at, upd_ne]
        · intro j
          by_cases q : j = x
          · rw [upd_at q, if_pos (by omega)]
          · rw [upd_ne q, hI j]
            have : j < x + 1 ↔ j < x := by omega
            simp only [this])
      (fun n s _ => by
        simp only [f_M_alone_L7]
        simp (disch := omega) only [nm, bd_some, bd2_some, bd3_some, n_lit, n_add, n_mul, n_sub, n_tn, n_ltT, n_ltF, n_leT, n_leF, n_eqT, n_eqF, n_div, n_ixT, n_ixF, n_not, n_md, n_dec, n_and1, n_and3, n_and7, n_and15, n_and31, n_and63, Nat.mod_eq_of_lt, Nat.zero_add, Nat.add_zero, Nat.zero_mul, Nat.sub_zero, not_false_eq_true, not_true_eq_false, if_pos, if_neg, false_or, or_false, not_false_eq_true, Nat.not_le, Nat.not_lt, if_true, if_false, Nat.zero_add, Nat.add_zero, Nat.zero_mul, Nat.sub_zero, upd_at, upd_ne]) (by omega) (lf_big (by omega)) (fun j => by rw [if_neg (by omega)])
    rw [e]; exact congrArg k (funext h)
  obtain ⟨fl, e2, h2⟩ : ∃ fl, (∀ k : (Nat → Int32) → Option T_M, f_M_alone_L28 k LF (NN 0) (M_aloneReal (M_al v)) = k fl) ∧ ∀ k, k < 4 → fl k = NN 0 := by
    refine ⟨fun j => if j < 4 then NN 0 else M_aloneReal (M_al v) j, fun k => ?_, fun k hk => if_pos hk⟩
    obtain ⟨s', e, h⟩ := loop_from (f_M_alone_L28 k) k (fun x s => ∀ j, s j = if j < x then NN 0 else M_aloneReal (M_al v) j) 0 4 (n := LF) (s := M_aloneReal (M_al v))
      (by
        intro n x s _ hx hI
        refine ⟨upd s x (NN 0), ?_, ?_⟩
        · simp only [f_M_alone_L28]
          simp (disch := omega) only [nm, bd_some, bd2_some, bd3_some, n_lit, n_add, n_mul, n_sub, n_tn, n_ltT, n_ltF, n_leT, n_leF, n_eqT, n_eqF, n_div, n_ixT, n_ixF, n_not, n_md, n_dec, n_and1, n_and3, n_and7, n_and15, n_and31, n_and63, Nat.mod_eq_of_lt, Nat.zero_add, Nat.add_zero, Nat.zero_mul, Nat.sub_zero, not_false_eq_true, not_true_eq_false, if_pos, if_neg, false_or, or_false, not_false_eq_true, Nat.not_le, Nat.not_lt, if_true, if_false, Nat.zero_add, Nat.add_zero, Nat.zero_mul, Nat.sub_zero, upd_at, upd_ne]
        · intro j
          by_cases q : j = x
          · rw [upd_at q, if_pos (by omega)]
          · rw [upd_ne q, hI j]
            have : j < x + 1 ↔ j < x := by omega
            simp only [this])
      (fun n s _ => by
        simp only [f_M_alone_L28]
        simp (disch := omega) only [nm, bd_some, bd2_some, bd3_some, n_lit, n_add, n_mul, n_sub, n_tn, n_ltT, n_ltF, n_leT, n_leF, n_eqT, n_eqF, n_div, n_ixT, n_ixF, n_not, n_md, n_dec, n_and1, n_and3, n_and7, n_and15, n_and31, n_and63, Nat.mod_eq_of_lt, Nat.zero_add, Nat.add_zero, Nat.zero_mul, Nat.sub_zero, not_false_eq_true, not_true_eq_false, if_pos, if_neg, false_or, or_false, not_false_eq_true, Nat.not_le, Nat.not_lt, if_true, if_false, Nat.zero_add, Nat.add_zero, Nat.zero_mul, Nat.sub_zero, upd_at, upd_ne]) (by omega) (lf_big (by omega)) (fun j => by rw [if_neg (by omega)])
    rw [e]; exact congrArg k (funext h)
  obtain ⟨mm, e3, h3⟩ : ∃ mm, (∀ k : (Nat → Int32) → Option T_M, f_M_alone_L48 v k LF (NN 0) (M_aloneMemory (M_al v)) = k mm) ∧ ∀ k, k < 32 → mm k = M_data (M_cd v) k := by
    refine ⟨fun j => if j < 32 then M_data (M_cd v) j else M_aloneMemory (M_al v) j, fun k => ?_, fun k hk => if_pos hk⟩
    obtain ⟨s', e, h⟩ := loop_from (f_M_alone_L48 v k) k (fun x s => ∀ j, s j = if j < x then M_data (M_cd v) j else M_aloneMemory (M_al v) j) 0 32 (n := LF) (s := M_aloneMemory (M_al v))
      (by
        intro n x s _ hx hI
        refine ⟨upd s x (M_data (M_cd v) x), ?_, ?_⟩
        · simp only [f_M_alone_L48]
          simp (disch := omega) only [nm, bd_some, bd2_some, bd3_some, n_lit, n_add, n_mul, n_sub, n_tn, n_ltT, n_ltF, n_leT, n_leF, n_eqT, n_eqF, n_div, n_ixT, n_ixF, n_not, n_md, n_dec, n_and1, n_and3, n_and7, n_and15, n_and31, n_and63, Nat.mod_eq_of_lt, Nat.zero_add, Nat.add_zero, Nat.zero_mul, Nat.sub_zero, not_false_eq_true, not_true_eq_false, if_pos, if_neg, false_or, or_false, not_false_eq_true, Nat.not_le, Nat.not_lt, if_true, if_false, Nat.zero_add, Nat.add_zero, Nat.zero_mul, Nat.sub_zero, upd_at, upd_ne]
        · intro j
          by_cases q : j = x
          · rw [upd_at q, if_pos (by omega), q]
          · rw [upd_ne q, hI j]
            have : j < x + 1 ↔ j < x := by omega
            simp only [this])
      (fun n s _ => by
        simp only [f_M_alone_L48]
        simp (disch := omega) only [nm, bd_some, bd2_some, bd3_some, n_lit, n_add, n_mul, n_sub, n_tn, n_ltT, n_ltF, n_leT, n_leF, n_eqT, n_eqF, n_div, n_ixT, n_ixF, n_not, n_md, n_dec, n_and1, n_and3, n_and7, n_and15, n_and31, n_and63, Nat.mod_eq_of_lt, Nat.zero_add, Nat.add_zero, Nat.zero_mul, Nat.sub_zero, not_false_eq_true, not_true_eq_false, if_pos, if_neg, false_or, or_false, not_false_eq_true, Nat.not_le, Nat.not_lt, if_true, if_false, Nat.zero_add, Nat.add_zero, Nat.zero_mul, Nat.sub_zero, upd_at, upd_ne]) (by omega) (lf_big (by omega)) (fun j => by rw [if_neg (by omega)])
    rw [e]; exact congrArg k (funext h)
  refine ⟨rg, fl, mm, h1, h2, h3, fun x => ?_⟩
  unfold f_M_alone
  refine (e1 _).trans ?_
  refine (e2 _).trans ?_
  refine (e3 _).trans ?_
  rfl
/-- what is always so of the THREAD that goes alone -/
def AL0 (al : T_Al) : Prop := ∀ k, k < 8 → St_stuckMask (Al_strand al) k = NN 0 ∧ St_stuckOnes (Al_strand al) k = NN 0
theorem RL_AL0 {al : T_Al} {v : T_M} {pl n no : Nat} (h : RLal al v pl n no) : AL0 al := h.2.2.2.2.2.1
theorem sim_alone {pr : T_Pg} {m : T_M} (hcf : RCf pr m) (al : T_Al) {a : Nat} (ha : a ≤ 999) : ∃ al1 al' a' pl n no, f_Al_beginText al pr = some al1 ∧ f_Al_run al1 pr (NN a) = some al' ∧ f_M_alone m (NN a) = some (mA m a') ∧ RLal al' (mA m a') pl n no := by
  obtain ⟨rg, fl, mm, h1, h2, h3, hM⟩ := M_alone1 m
  obtain ⟨st, e1, c1, c2, c3, c4⟩ := C_clear (Al_strand al)
  have hd := RCf_data hcf
  obtain ⟨n, sp, lo, hi, z0, z1, z2, tr, se, hcd, -⟩ := hcf
  have hR : RLal (st, va_cpy (Pg_data pr) (Al_memory al) 0 0 32, Al_output al, NN 0) (mA m (NN 0, NN 0, NN 0, rg, fl, mm, (M_aloneOutput (M_al m)))) 0 0 0 :=
    ⟨⟨c1, rfl, by omega⟩, ⟨c2, rfl, by omega⟩, ⟨rfl, rfl, by omega⟩, fun k hk => (h1 k hk).trans (c3 k hk).1.symm, fun k hk => (h2 k hk).trans (c4 k hk).symm, fun k hk => (c3 k hk).2, fun k hk => (h3 k hk).trans ((hd k hk).symm.trans (cpy_in hk).symm), fun k hk => by omega⟩
  obtain ⟨al', a', pl', n', no', g1, g2, g3⟩ := al_loop (v0 := m) hcd ha (fun v3 => some v3) (fun v2 => some v2) a 0 LF LF _ _ 0 0 (by omega) (lf_big (by omega)) (lf_big (by omega)) hR
  refine ⟨(st, va_cpy (Pg_data pr) (Al_memory al) 0 0 32, Al_output al, NN 0), al', a', pl', n', no', ?_, ?_, ?_, g3⟩
  · unfold f_Al_beginText
    repeat first | (with_reducible refine s_nmj1 ?_) | (with_reducible refine s_nmj2 ?_) | ((with_reducible refine s_nm ?_); intro y_ hy_; (try simp (disch := omega) only [n_lit, n_add, n_mul, n_sub, n_tn, n_ltT, n_ltF, n_leT, n_leF, n_eqT, n_eqF, n_div, n_ixT, n_ixF, n_not, n_md, n_dec, n_and1, n_and3, n_and7, n_and15, n_and31, n_and63, Nat.mod_eq_of_lt, Nat.zero_add, Nat.add_zero, Nat.zero_mul, Nat.sub_zero, not_false_eq_true, not_true_eq_false, upd_at, upd_ne] at hy_); subst hy_) | ((with_reducible refine s_pos ?_ ?_); · simp (disch := omega) only [n_lit, n_add, n_mul, n_sub, n_tn, n_ltT, n_ltF, n_leT, n_leF, n_eqT, n_eqF, n_div, n_ixT, n_ixF, n_not, n_md, n_dec, n_and1, n_and3, n_and7, n_and15, n_and31, n_and63, Nat.mod_eq_of_lt, Nat.zero_add, Nat.add_zero, Nat.zero_mul, Nat.sub_zero, not_false_eq_true, not_true_eq_false, upd_at, upd_ne]) | ((with_reducible refine s_neg ?_ ?_); · simp (disch := omega) only [n_lit, n_add, n_mul, n_sub, n_tn, n_ltT, n_ltF, n_leT, n_leF, n_eqT, n_eqF, n_div, n_ixT, n_ixF, n_not, n_md, n_dec, n_and1, n_and3, n_and7, n_and15, n_and31, n_and63, Nat.mod_eq_of_lt, Nat.zero_add, Nat.add_zero, Nat.zero_mul, Nat.sub_zero, not_false_eq_true, not_true_eq_false, upd_at, upd_ne])  | (with_reducible refine s_bd e1 ?_)
    rfl
  · unfold f_Al_run
    exact g1
  · rw [hM]
    refine s_bd (y := mA m a') ?_ rfl
    unfold f_M_aloneGoes
    exact g2
