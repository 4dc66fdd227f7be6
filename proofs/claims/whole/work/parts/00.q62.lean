/-! by chance -/
def rF (x : Int32) : Int32 := ((x * (1103515245 : Int32)) + (12345 : Int32)) &&& (2147483647 : Int32)
def rD (x k : Int32) : Int32 := (x >>> ((16 : Int32) &&& 31)) - (x >>> ((16 : Int32) &&& 31)) / k * k
theorem rF_n (x : Int32) : ∃ q, q < 2147483648 ∧ rF x = NN q := by
  obtain ⟨y, hy⟩ : ∃ y, y = (x * (1103515245 : Int32)) + (12345 : Int32) := ⟨_, rfl⟩
  have e : y = NN y.toBitVec.toNat := by
    apply Int32.toBitVec_inj.mp
    show y.toBitVec = BitVec.ofNat 32 y.toBitVec.toNat
    rw [BitVec.ofNat_toNat, BitVec.setWidth_eq]
  refine ⟨y.toBitVec.toNat &&& 2147483647, Nat.lt_of_le_of_lt Nat.and_le_right (by decide), ?_⟩
  unfold rF
  rw [← hy]
  show y &&& NN 2147483647 = _
  rw [← n_and, ← e]
theorem rD_n {q k : Nat} (hq : q < 2147483648) (hk : 0 < k ∧ k < 2147483648) : rD (NN q) (NN k) = NN ((q / 65536) % k) := by
  have e : NN q >>> ((16 : Int32) &&& 31) = NN (q / 65536) := by
    show NN q >>> NN 16 = _
    rw [n_sar hq (by decide)]
  unfold rD
  have h1 : q / 65536 < 2147483648 := by omega
  rw [e, n_div h1 hk.2, n_mul, n_sub _ _ (Nat.div_mul_le_self _ _), n_md]
theorem C_following (x : Int32) : f_TT_following x = some (rF x) := rfl
theorem C_drawn (x : Int32) {k : Nat} (hk : 1 ≤ k ∧ k < 2147483648) : f_TT_drawn x (NN k) = some (rD x (NN k)) := by
  unfold f_TT_drawn
  repeat first | (with_reducible refine s_nmj1 ?_) | (with_reducible refine s_nmj2 ?_) | ((with_reducible refine s_nm ?_); intro y_ hy_; (try simp (disch := omega) only [n_lit, n_add, n_mul, n_sub, n_tn, n_ltT, n_ltF, n_leT, n_leF, n_eqT, n_eqF, n_div, n_ixT, n_ixF, n_not, n_md, n_dec, n_and1, n_and3, n_and7, n_and15, n_and31, n_and63, Nat.mod_eq_of_lt, Nat.zero_add, Nat.add_zero, Nat.zero_mul, Nat.sub_zero, not_false_eq_true, not_true_eq_false, upd_at, upd_ne] at hy_); subst hy_) | ((with_reducible refine s_pos ?_ ?_); · simp (disch := omega) only [n_lit, n_add, n_mul, n_sub, n_tn, n_ltT, n_ltF, n_leT, n_leF, n_eqT, n_eqF, n_div, n_ixT, n_ixF, n_not, n_md, n_dec, n_and1, n_and3, n_and7, n_and15, n_and31, n_and63, Nat.mod_eq_of_lt, Nat.zero_add, Nat.add_zero, Nat.zero_mul, Nat.sub_zero, not_false_eq_true, not_true_eq_false, upd_at, upd_ne]) | ((with_reducible refine s_neg ?_ ?_); · simp (disch := omega) only [n_lit, n_add, n_mul, n_sub, n_tn, n_ltT, n_ltF, n_leT, n_leF, n_eqT, n_eqF, n_div, n_ixT, n_ixF, n_not, n_md, n_dec, n_and1, n_and3, n_and7, n_and15, n_and31, n_and63, Nat.mod_eq_of_lt, Nat.zero_add, Nat.add_zero, Nat.zero_mul, Nat.sub_zero, not_false_eq_true, not_true_eq_false, upd_at, upd_ne]) 
  rfl
theorem M_draw1 (v : T_M) {k : Nat} (hk : 1 ≤ k ∧ k < 2147483648) : f_M_draw v (NN k) = some (rD (rF (M_drawn (M_ex v))) (NN k), mZ v (M_s (M_rn v)) (M_spanNow (M_rn v)) (M_sizeNow (M_rn v)) (M_placeThen (M_rn v)) ((M_aside (M_ex v)), (M_further (M_ex v)), (M_shotAlarm (M_ex v)), rF (M_drawn (M_ex v))) (M_al v) (M_thrown v)) := by
  unfold f_M_draw
  obtain ⟨x, hx⟩ : ∃ x, x = rF (M_drawn (M_ex v)) := ⟨_, rfl⟩
  rw [← hx]
  refine s_nm ?_
  intro y hy
  have : y = x := by rw [hy, hx]; rfl
  subst this
  repeat first | (with_reducible refine s_nmj1 ?_) | (with_reducible refine s_nmj2 ?_) | ((with_reducible refine s_nm ?_); intro y_ hy_; (try simp (disch := omega) only [n_lit, n_add, n_mul, n_sub, n_tn, n_ltT, n_ltF, n_leT, n_leF, n_eqT, n_eqF, n_div, n_ixT, n_ixF, n_not, n_md, n_dec, n_and1, n_and3, n_and7, n_and15, n_and31, n_and63, Nat.mod_eq_of_lt, Nat.zero_add, Nat.add_zero, Nat.zero_mul, Nat.sub_zero, not_false_eq_true, not_true_eq_false, upd_at, upd_ne] at hy_); subst hy_) | ((with_reducible refine s_pos ?_ ?_); · simp (disch := omega) only [n_lit, n_add, n_mul, n_sub, n_tn, n_ltT, n_ltF, n_leT, n_leF, n_eqT, n_eqF, n_div, n_ixT, n_ixF, n_not, n_md, n_dec, n_and1, n_and3, n_and7, n_and15, n_and31, n_and63, Nat.mod_eq_of_lt, Nat.zero_add, Nat.add_zero, Nat.zero_mul, Nat.sub_zero, not_false_eq_true, not_true_eq_false, upd_at, upd_ne]) | ((with_reducible refine s_neg ?_ ?_); · simp (disch := omega) only [n_lit, n_add, n_mul, n_sub, n_tn, n_ltT, n_ltF, n_leT, n_leF, n_eqT, n_eqF, n_div, n_ixT, n_ixF, n_not, n_md, n_dec, n_and1, n_and3, n_and7, n_and15, n_and31, n_and63, Nat.mod_eq_of_lt, Nat.zero_add, Nat.add_zero, Nat.zero_mul, Nat.sub_zero, not_false_eq_true, not_true_eq_false, upd_at, upd_ne]) 
  rfl
/-- ahead of a TURN: as many have been as are counted, or none comes any more -/
def ST (i : Nat) (pa : T_Pa) (pr : T_Pg) (v0 : T_M) (row : Nat → Int32) (pt : Int32) : Prop := RPa i pa pr (mP v0 row pt) ∧ ((Pa_done pa = NN 0 ∧ Pa_down pa = NN 0 ∧ row 219 = NN i) ∨ OV pa pr (mP v0 row pt))
theorem ST_of {i : Nat} {pa : T_Pa} {pr : T_Pg} {v0 : T_M} {row : Nat → Int32} {pt : Int32} (h : RPa i pa pr (mP v0 row pt)) (e : row 219 = NN i) : ST i pa pr v0 row pt := by
  refine ⟨h, ?_⟩
  rcases turn_or h with o | ⟨o1, o2, -⟩
  · exact Or.inr o
  · exact Or.inl ⟨o1, o2, e⟩
theorem RPa_tu {B : Nat} {pa : T_Pa} {pr : T_Pg} {m : T_M} (h : RPa B pa pr m) : ∃ tu, tu ≤ B ∧ M_s (M_rn m) 219 = NN tu ∧ Ta_turns (Pa_tally pa) = NN tu := by
  obtain ⟨n, sp, lo, hi, z0, z1, z2, tr, pl, nl, pt, nt, pb, fl, nld, fb, nbr, nh, nc, ns, no, tu, po, al, si, sm, dn, dw, hcd, hru, hq, hbk, hou, hta, hdn, hdw, hbd⟩ := h
  exact ⟨tu, by omega, hta.1.2, hta.1.1⟩
theorem over_stay (pr : T_Pg) (r3 r5 r7 : Int32) {ah : Nat} (hah : ah < 300) (k45 : T_Pa → Option (Int32 × T_Pa)) {pa : T_Pa} (o : f_Pa_turn pa pr = some (-2, pa)) : ∀ d i n1 T, i + d = T → T ≤ 300 → (∀ j, i ≤ j → j < T → j ≠ ah) → f_TT_runByChance_L45 pr r3 r5 r7 (NN ah) k45 (n1 + d) (NN i) pa = f_TT_runByChance_L45 pr r3 r5 r7 (NN ah) k45 n1 (NN T) pa := by
  intro d
  induction d with
  | zero =>
    intro i n1 T hi hT hj
    obtain rfl : i = T := by omega
    rfl
  | succ d ih =>
    intro i n1 T hi hT hj
    have := hj i (by omega) (by omega)
    rw [← ih (i + 1) n1 T (by omega) hT (fun j h1 h2 => hj j (by omega) h2), show n1 + (d + 1) = n1 + d + 1 by omega, f_TT_runByChance_L45]
    repeat first | (with_reducible refine s_nmj1 ?_) | (with_reducible refine s_nmj2 ?_) | ((with_reducible refine s_nm ?_); intro y_ hy_; (try simp (disch := omega) only [n_lit, n_add, n_mul, n_sub, n_tn, n_ltT, n_ltF, n_leT, n_leF, n_eqT, n_eqF, n_div, n_ixT, n_ixF, n_not, n_md, n_dec, n_and1, n_and3, n_and7, n_and15, n_and31, n_and63, Nat.mod_eq_of_lt, Nat.zero_add, Nat.add_zero, Nat.zero_mul, Nat.sub_zero, not_false_eq_true, not_true_eq_false, upd_at, upd_ne] at hy_); subst hy_) | ((with_reducible refine s_pos ?_ ?_); · simp (disch := omega) only [n_lit, n_add, n_mul, n_sub, n_tn, n_ltT, n_ltF, n_leT, n_leF, n_eqT, n_eqF, n_div, n_ixT, n_ixF, n_not, n_md, n_dec, n_and1, n_and3, n_and7, n_and15, n_and31, n_and63, Nat.mod_eq_of_lt, Nat.zero_add, Nat.add_zero, Nat.zero_mul, Nat.sub_zero, not_false_eq_true, not_true_eq_false, upd_at, upd_ne]) | ((with_reducible refine s_neg ?_ ?_); · simp (disch := omega) only [n_lit, n_add, n_mul, n_sub, n_tn, n_ltT, n_ltF, n_leT, n_leF, n_eqT, n_eqF, n_div, n_ixT, n_ixF, n_not, n_md, n_dec, n_and1, n_and3, n_and7, n_and15, n_and31, n_and63, Nat.mod_eq_of_lt, Nat.zero_add, Nat.add_zero, Nat.zero_mul, Nat.sub_zero, not_false_eq_true, not_true_eq_false, upd_at, upd_ne])  | (with_reducible refine s_bd2 o ?_)
    rfl
theorem until_over {pa : T_Pa} {pr : T_Pg} {v : T_M} {B T : Nat} (h : RPa B pa pr v) (hB : B < 1000) (hT : T < 1000) (o : ∀ a, f_M_turns v a = some (NN 0, v)) (k : T_M → Option T_M) (n2 : Nat) : f_M_goesUntil_L2 (NN T) k (n2 + 2) (NN 1) v = k v := by
  obtain ⟨tu, h1, h2, -⟩ := RPa_tu h
  rw [f_M_goesUntil_L2]
  by_cases q : T ≤ tu
  · repeat first | (with_reducible refine s_nmj1 ?_) | (with_reducible refine s_nmj2 ?_) | ((with_reducible refine s_nm ?_); intro y_ hy_; (try simp (disch := omega) only [n_lit, n_add, n_mul, n_sub, n_tn, n_ltT, n_ltF, n_leT, n_leF, n_eqT, n_eqF, n_div, n_ixT, n_ixF, n_not, n_md, n_dec, n_and1, n_and3, n_and7, n_and15, n_and31, n_and63, Nat.mod_eq_of_lt, Nat.zero_add, Nat.add_zero, Nat.zero_mul, Nat.sub_zero, not_false_eq_true, not_true_eq_false, upd_at, upd_ne, h2] at hy_); subst hy_) | ((with_reducible refine s_pos ?_ ?_); · simp (disch := omega) only [n_lit, n_add, n_mul, n_sub, n_tn, n_ltT, n_ltF, n_leT, n_leF, n_eqT, n_eqF, n_div, n_ixT, n_ixF, n_not, n_md, n_dec, n_and1, n_and3, n_and7, n_and15, n_and31, n_and63, Nat.mod_eq_of_lt, Nat.zero_add, Nat.add_zero, Nat.zero_mul, Nat.sub_zero, not_false_eq_true, not_true_eq_false, upd_at, upd_ne, h2]) | ((with_reducible refine s_neg ?_ ?_); · simp (disch := omega) only [n_lit, n_add, n_mul, n_sub, n_tn, n_ltT, n_ltF, n_leT, n_leF, n_eqT, n_eqF, n_div, n_ixT, n_ixF, n_not, n_md, n_dec, n_and1, n_and3, n_and7, n_and15, n_and31, n_and63, Nat.mod_eq_of_lt, Nat.zero_add, Nat.add_zero, Nat.zero_mul, Nat.sub_zero, not_false_eq_true, not_true_eq_false, upd_at, upd_ne, h2]) 
    rfl
  · repeat first | (with_reducible refine s_nmj1 ?_) | (with_reducible refine s_nmj2 ?_) | ((with_reducible refine s_nm ?_); intro y_ hy_; (try simp (disch := omega) only [n_lit, n_add, n_mul, n_sub, n_tn, n_ltT, n_ltF, n_leT, n_leF, n_eqT, n_eqF, n_div, n_ixT, n_ixF, n_not, n_md, n_dec, n_and1, n_and3, n_and7, n_and15, n_and31, n_and63, Nat.mod_eq_of_lt, Nat.zero_add, Nat.add_zero, Nat.zero_mul, Nat.sub_zero, not_false_eq_true, not_true_eq_false, upd_at, upd_ne, h2] at hy_); subst hy_) | ((with_reducible refine s_pos ?_ ?_); · simp (disch := omega) only [n_lit, n_add, n_mul, n_sub, n_tn, n_ltT, n_ltF, n_leT, n_leF, n_eqT, n_eqF, n_div, n_ixT, n_ixF, n_not, n_md, n_dec, n_and1, n_and3, n_and7, n_and15, n_and31, n_and63, Nat.mod_eq_of_lt, Nat.zero_add, Nat.add_zero, Nat.zero_mul, Nat.sub_zero, not_false_eq_true, not_true_eq_false, upd_at, upd_ne, h2]) | ((with_reducible refine s_neg ?_ ?_); · simp (disch := omega) only [n_lit, n_add, n_mul, n_sub, n_tn, n_ltT, n_ltF, n_leT, n_leF, n_eqT, n_eqF, n_div, n_ixT, n_ixF, n_not, n_md, n_dec, n_and1, n_and3, n_and7, n_and15, n_and31, n_and63, Nat.mod_eq_of_lt, Nat.zero_add, Nat.add_zero, Nat.zero_mul, Nat.sub_zero, not_false_eq_true, not_true_eq_false, upd_at, upd_ne, h2])  | (with_reducible refine s_bd2 (o _) ?_)
    rw [f_M_goesUntil_L2]
    repeat first | (with_reducible refine s_nmj1 ?_) | (with_reducible refine s_nmj2 ?_) | ((with_reducible refine s_nm ?_); intro y_ hy_; (try simp (disch := omega) only [n_lit, n_add, n_mul, n_sub, n_tn, n_ltT, n_ltF, n_leT, n_leF, n_eqT, n_eqF, n_div, n_ixT, n_ixF, n_not, n_md, n_dec, n_and1, n_and3, n_and7, n_and15, n_and31, n_and63, Nat.mod_eq_of_lt, Nat.zero_add, Nat.add_zero, Nat.zero_mul, Nat.sub_zero, not_false_eq_true, not_true_eq_false, upd_at, upd_ne] at hy_); subst hy_) | ((with_reducible refine s_pos ?_ ?_); · simp (disch := omega) only [n_lit, n_add, n_mul, n_sub, n_tn, n_ltT, n_ltF, n_leT, n_leF, n_eqT, n_eqF, n_div, n_ixT, n_ixF, n_not, n_md, n_dec, n_and1, n_and3, n_and7, n_and15, n_and31, n_and63, Nat.mod_eq_of_lt, Nat.zero_add, Nat.add_zero, Nat.zero_mul, Nat.sub_zero, not_false_eq_true, not_true_eq_false, upd_at, upd_ne]) | ((with_reducible refine s_neg ?_ ?_); · simp (disch := omega) only [n_lit, n_add, n_mul, n_sub, n_tn, n_ltT, n_ltF, n_leT, n_leF, n_eqT, n_eqF, n_div, n_ixT, n_ixF, n_not, n_md, n_dec, n_and1, n_and3, n_and7, n_and15, n_and31, n_and63, Nat.mod_eq_of_lt, Nat.zero_add, Nat.add_zero, Nat.zero_mul, Nat.sub_zero, not_false_eq_true, not_true_eq_false, upd_at, upd_ne]) 
    rfl
set_option maxHeartbeats 4000000 in
theorem until_loop (pr : T_Pg) (r3 r5 r7 : Int32) {ah : Nat} (hah : ah < 300) (k45 : T_Pa → Option (Int32 × T_Pa)) (k : T_M → Option T_M) (v0 : T_M) : ∀ d i n1 n2 T pa row pt, i + d = T → T ≤ 300 → d + 2 ≤ n2 → (∀ j, i ≤ j → j < T → j ≠ ah) → ST i pa pr v0 row pt →
    ∃ pa' row' pt', ST T pa' pr v0 row' pt' ∧ f_TT_runByChance_L45 pr r3 r5 r7 (NN ah) k45 (n1 + d) (NN i) pa = f_TT_runByChance_L45 pr r3 r5 r7 (NN ah) k45 n1 (NN T) pa' ∧ f_M_goesUntil_L2 (NN T) k n2 (NN 1) (mP v0 row pt) = k (mP v0 row' pt') := by
  intro d
  induction d with
  | zero =>
    intro i n1 n2 T pa row pt hi hT hn hj h
    obtain ⟨n2, rfl⟩ : ∃ q, n2 = q + 2 := ⟨n2 - 2, by omega⟩
    obtain rfl : i = T := by omega
    refine ⟨pa, row, pt, h, rfl, ?_⟩
    rcases h with ⟨h, ⟨o1, o2, e⟩ | ⟨-, ⟨-, o⟩, -⟩⟩
    · have hrow : M_s (M_rn (mP v0 row pt)) = row := rfl
      rw [f_M_goesUntil_L2]
      repeat first | (with_reducible refine s_nmj1 ?_) | (with_reducible refine s_nmj2 ?_) | ((with_reducible refine s_nm ?_); intro y_ hy_; (try simp (disch := omega) only [n_lit, n_add, n_mul, n_sub, n_tn, n_ltT, n_ltF, n_leT, n_leF, n_eqT, n_eqF, n_div, n_ixT, n_ixF, n_not, n_md, n_dec, n_and1, n_and3, n_and7, n_and15, n_and31, n_and63, Nat.mod_eq_of_lt, Nat.zero_add, Nat.add_zero, Nat.zero_mul, Nat.sub_zero, not_false_eq_true, not_true_eq_false, upd_at, upd_ne, hrow, e] at hy_); subst hy_) | ((with_reducible refine s_pos ?_ ?_); · simp (disch := omega) only [n_lit, n_add, n_mul, n_sub, n_tn, n_ltT, n_ltF, n_leT, n_leF, n_eqT, n_eqF, n_div, n_ixT, n_ixF, n_not, n_md, n_dec, n_and1, n_and3, n_and7, n_and15, n_and31, n_and63, Nat.mod_eq_of_lt, Nat.zero_add, Nat.add_zero, Nat.zero_mul, Nat.sub_zero, not_false_eq_true, not_true_eq_false, upd_at, upd_ne, hrow, e]) | ((with_reducible refine s_neg ?_ ?_); · simp (disch := omega) only [n_lit, n_add, n_mul, n_sub, n_tn, n_ltT, n_ltF, n_leT, n_leF, n_eqT, n_eqF, n_div, n_ixT, n_ixF, n_not, n_md, n_dec, n_and1, n_and3, n_and7, n_and15, n_and31, n_and63, Nat.mod_eq_of_lt, Nat.zero_add, Nat.add_zero, Nat.zero_mul, Nat.sub_zero, not_false_eq_true, not_true_eq_false, upd_at, upd_ne, hrow, e]) 
      rfl
    · exact until_over h (by omega) (by omega) o k n2
  | succ d ih =>
    intro i n1 n2 T pa row pt hi hT hn hj h
    obtain ⟨n2, rfl⟩ : ∃ q, n2 = q + 2 := ⟨n2 - 2, by omega⟩
    rcases h with ⟨h, ⟨o1, o2, e⟩ | ⟨⟨x1, x2, x3⟩, ⟨x4, o⟩, x5⟩⟩
    · have hrow : M_s (M_rn (mP v0 row pt)) = row := rfl
      obtain ⟨kind, pa1, row1, pt1, c2, c3, c4, c5⟩ := one_turn h (by omega) o1 o2
      rw [e, n_add] at c5
      obtain ⟨pa', row', pt', f0, f1, f2⟩ := ih (i + 1) n1 (n2 + 1) T pa1 row1 pt1 (by omega) hT (by omega) (fun j h1 h2 => hj j (by omega) h2) (ST_of c4 c5)
      have := hj i (by omega) (by omega)
      refine ⟨pa', row', pt', f0, ?_, ?_⟩
      · rw [← f1, show n1 + (d + 1) = n1 + d + 1 by omega, f_TT_runByChance_L45]
        repeat first | (with_reducible refine s_nmj1 ?_) | (with_reducible refine s_nmj2 ?_) | ((with_reducible refine s_nm ?_); intro y_ hy_; (try simp (disch := omega) only [n_lit, n_add, n_mul, n_sub, n_tn, n_ltT, n_ltF, n_leT, n_leF, n_eqT, n_eqF, n_div, n_ixT, n_ixF, n_not, n_md, n_dec, n_and1, n_and3, n_and7, n_and15, n_and31, n_and63, Nat.mod_eq_of_lt, Nat.zero_add, Nat.add_zero, Nat.zero_mul, Nat.sub_zero, not_false_eq_true, not_true_eq_false, upd_at, upd_ne] at hy_); subst hy_) | ((with_reducible refine s_pos ?_ ?_); · simp (disch := omega) only [n_lit, n_add, n_mul, n_sub, n_tn, n_ltT, n_ltF, n_leT, n_leF, n_eqT, n_eqF, n_div, n_ixT, n_ixF, n_not, n_md, n_dec, n_and1, n_and3, n_and7, n_and15, n_and31, n_and63, Nat.mod_eq_of_lt, Nat.zero_add, Nat.add_zero, Nat.zero_mul, Nat.sub_zero, not_false_eq_true, not_true_eq_false, upd_at, upd_ne]) | ((with_reducible refine s_neg ?_ ?_); · simp (disch := omega) only [n_lit, n_add, n_mul, n_sub, n_tn, n_ltT, n_ltF, n_leT, n_leF, n_eqT, n_eqF, n_div, n_ixT, n_ixF, n_not, n_md, n_dec, n_and1, n_and3, n_and7, n_and15, n_and31, n_and63, Nat.mod_eq_of_lt, Nat.zero_add, Nat.add_zero, Nat.zero_mul, Nat.sub_zero, not_false_eq_true, not_true_eq_false, upd_at, upd_ne])  | (with_reducible refine s_bd2 c2 ?_)
        rfl
      · rw [← f2, f_M_goesUntil_L2]
        repeat first | (with_reducible refine s_nmj1 ?_) | (with_reducible refine s_nmj2 ?_) | ((with_reducible refine s_nm ?_); intro y_ hy_; (try simp (disch := omega) only [n_lit, n_add, n_mul, n_sub, n_tn, n_ltT, n_ltF, n_leT, n_leF, n_eqT, n_eqF, n_div, n_ixT, n_ixF, n_not, n_md, n_dec, n_and1, n_and3, n_and7, n_and15, n_and31, n_and63, Nat.mod_eq_of_lt, Nat.zero_add, Nat.add_zero, Nat.zero_mul, Nat.sub_zero, not_false_eq_true, not_true_eq_false, upd_at, upd_ne, hrow, e] at hy_); subst hy_) | ((with_reducible refine s_pos ?_ ?_); · simp (disch := omega) only [n_lit, n_add, n_mul, n_sub, n_tn, n_ltT, n_ltF, n_leT, n_leF, n_eqT, n_eqF, n_div, n_ixT, n_ixF, n_not, n_md, n_dec, n_and1, n_and3, n_and7, n_and15, n_and31, n_and63, Nat.mod_eq_of_lt, Nat.zero_add, Nat.add_zero, Nat.zero_mul, Nat.sub_zero, not_false_eq_true, not_true_eq_false, upd_at, upd_ne, hrow, e]) | ((with_reducible refine s_neg ?_ ?_); · simp (disch := omega) only [n_lit, n_add, n_mul, n_sub, n_tn, n_ltT, n_ltF, n_leT, n_leF, n_eqT, n_eqF, n_div, n_ixT, n_ixF, n_not, n_md, n_dec, n_and1, n_and3, n_and7, n_and15, n_and31, n_and63, Nat.mod_eq_of_lt, Nat.zero_add, Nat.add_zero, Nat.zero_mul, Nat.sub_zero, not_false_eq_true, not_true_eq_false, upd_at, upd_ne, hrow, e]) 
        refine s_bd2 c3 ?_
        rfl
    · refine ⟨pa, row, pt, ⟨RPa_mono h (by omega), Or.inr ⟨⟨x1, x2, x3⟩, ⟨x4, o⟩, x5⟩⟩, over_stay pr r3 r5 r7 hah k45 x2 (d + 1) i n1 T hi hT hj, until_over h (by omega) (by omega) o k n2⟩
