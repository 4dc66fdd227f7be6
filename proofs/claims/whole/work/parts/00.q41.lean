/-! how many bits are stuck -/
def pcI (x : Int32) : Nat := popN 32 x.toBitVec.toNat
theorem pcI_NN {a : Nat} (h : a < 4294967296) : pcI (NN a) = popN 32 a := by
  have : (NN a).toBitVec.toNat = a := by show (BitVec.ofNat 32 a).toNat = a; rw [BitVec.toNat_ofNat]; exact Nat.mod_eq_of_lt h
  simp only [pcI]; rw [this]
theorem pcI_le (x : Int32) : pcI x ≤ 32 := popN_le 32 _
theorem C_bits (x : Int32) : f_J_bitCount_0f7a4 x = some (NN (pcI x)) := by
  obtain ⟨a, ha, rfl, e⟩ := C_bitCount x
  rw [e, pcI_NN ha]
theorem u_eq0 {a : Nat} (ha : a < 4294967296) (h : a ≠ 0) : (NN a = NN 0) = False := by
  apply eq_false
  intro e
  have h2 := congrArg (fun x : Int32 => x.toBitVec.toNat) e
  have h3 : (NN a).toBitVec.toNat = a := by show (BitVec.ofNat 32 a).toNat = a; rw [BitVec.toNat_ofNat]; exact Nat.mod_eq_of_lt ha
  have h4 : (NN 0).toBitVec.toNat = 0 := rfl
  exact h (h3.symm.trans (Eq.trans h2 h4))
theorem M_bits_L {k : Int32 → Option Int32} : ∀ p n c a, a < 4294967296 → popN 32 a = p → p < n → f_M_bits_L4 k n (NN c) (NN a) = k (NN (c + p)) := by
  intro p
  induction p with
  | zero =>
    intro n c a ha hp hn
    obtain ⟨n, rfl⟩ : ∃ n', n = n' + 1 := ⟨n - 1, by omega⟩
    have h0 : a = 0 := by
      by_cases q : a = 0
      · exact q
      · have := pop_clear 32 a (by omega) (by omega); omega
    subst h0
    simp only [f_M_bits_L4]
    repeat first | (with_reducible refine s_nmj1 ?_) | (with_reducible refine s_nmj2 ?_) | ((with_reducible refine s_nm ?_); intro y_ hy_; (try simp (disch := omega) only [n_lit, n_add, n_mul, n_sub, n_tn, n_ltT, n_ltF, n_leT, n_leF, n_eqT, n_eqF, n_div, n_ixT, n_ixF, n_not, n_md, n_dec, n_and1, n_and3, n_and7, n_and15, n_and31, n_and63, Nat.mod_eq_of_lt, Nat.zero_add, Nat.add_zero, Nat.zero_mul, Nat.sub_zero, not_false_eq_true, not_true_eq_false, upd_at, upd_ne] at hy_); subst hy_) | ((with_reducible refine s_pos ?_ ?_); · simp (disch := omega) only [n_lit, n_add, n_mul, n_sub, n_tn, n_ltT, n_ltF, n_leT, n_leF, n_eqT, n_eqF, n_div, n_ixT, n_ixF, n_not, n_md, n_dec, n_and1, n_and3, n_and7, n_and15, n_and31, n_and63, Nat.mod_eq_of_lt, Nat.zero_add, Nat.add_zero, Nat.zero_mul, Nat.sub_zero, not_false_eq_true, not_true_eq_false, upd_at, upd_ne]) | ((with_reducible refine s_neg ?_ ?_); · simp (disch := omega) only [n_lit, n_add, n_mul, n_sub, n_tn, n_ltT, n_ltF, n_leT, n_leF, n_eqT, n_eqF, n_div, n_ixT, n_ixF, n_not, n_md, n_dec, n_and1, n_and3, n_and7, n_and15, n_and31, n_and63, Nat.mod_eq_of_lt, Nat.zero_add, Nat.add_zero, Nat.zero_mul, Nat.sub_zero, not_false_eq_true, not_true_eq_false, upd_at, upd_ne]) 
    rfl
  | succ p ih =>
    intro n c a ha hp hn
    obtain ⟨n, rfl⟩ : ∃ n', n = n' + 1 := ⟨n - 1, by omega⟩
    have h0 : a ≠ 0 := by
      intro h; subst h; rw [popN_zero] at hp; omega
    have h1 := pop_clear 32 a (by omega) (by omega)
    have hz := u_eq0 ha h0
    have hle : (a &&& (a - 1)) ≤ a := Nat.and_le_left
    have ih := ih n (c + 1) (a &&& (a - 1)) (by omega) (by omega) (by omega)
    rw [show c + (p + 1) = c + 1 + p by omega, ← ih]
    simp only [f_M_bits_L4]
    repeat first | (with_reducible refine s_nmj1 ?_) | (with_reducible refine s_nmj2 ?_) | ((with_reducible refine s_nm ?_); intro y_ hy_; (try simp (disch := omega) only [n_lit, n_add, n_mul, n_sub, n_tn, n_ltT, n_ltF, n_leT, n_leF, n_eqT, n_eqF, n_div, n_ixT, n_ixF, n_not, n_md, n_dec, n_and1, n_and3, n_and7, n_and15, n_and31, n_and63, Nat.mod_eq_of_lt, Nat.zero_add, Nat.add_zero, Nat.zero_mul, Nat.sub_zero, not_false_eq_true, not_true_eq_false, upd_at, upd_ne, hz, n_and] at hy_); subst hy_) | ((with_reducible refine s_pos ?_ ?_); · simp (disch := omega) only [n_lit, n_add, n_mul, n_sub, n_tn, n_ltT, n_ltF, n_leT, n_leF, n_eqT, n_eqF, n_div, n_ixT, n_ixF, n_not, n_md, n_dec, n_and1, n_and3, n_and7, n_and15, n_and31, n_and63, Nat.mod_eq_of_lt, Nat.zero_add, Nat.add_zero, Nat.zero_mul, Nat.sub_zero, not_false_eq_true, not_true_eq_false, upd_at, upd_ne, hz, n_and]) | ((with_reducible refine s_neg ?_ ?_); · simp (disch := omega) only [n_lit, n_add, n_mul, n_sub, n_tn, n_ltT, n_ltF, n_leT, n_leF, n_eqT, n_eqF, n_div, n_ixT, n_ixF, n_not, n_md, n_dec, n_and1, n_and3, n_and7, n_and15, n_and31, n_and63, Nat.mod_eq_of_lt, Nat.zero_add, Nat.add_zero, Nat.zero_mul, Nat.sub_zero, not_false_eq_true, not_true_eq_false, upd_at, upd_ne, hz, n_and]) 
    rfl
theorem M_bits (x : Int32) : f_M_bits x = some (NN (pcI x)) := by
  obtain ⟨a, ha, rfl⟩ := n_u x
  unfold f_M_bits
  have h := popN_le 32 a
  have := M_bits_L (k := fun x3 => some x3) (popN 32 a) LF 0 a ha rfl (lf_big (by omega))
  rw [pcI_NN ha]
  rw [Nat.zero_add] at this
  exact this
def sumP (f : Nat → Int32) : Nat → Nat
  | 0 => 0
  | n + 1 => sumP f n + pcI (f n)
theorem sumP_le (f : Nat → Int32) : ∀ n, sumP f n ≤ 32 * n
  | 0 => Nat.le_refl _
  | n + 1 => by simp only [sumP]; have := sumP_le f n; have := pcI_le (f n); omega
theorem sumP_congr {f g : Nat → Int32} : ∀ {n : Nat}, (∀ k, k < n → f k = g k) → sumP f n = sumP g n
  | 0, _ => rfl
  | n + 1, h => by simp only [sumP]; rw [h n (by omega), sumP_congr (fun k hk => h k (by omega))]
theorem sumP_add (f : Nat → Int32) (a : Nat) : ∀ b, sumP f (a + b) = sumP f a + sumP (fun k => f (a + k)) b
  | 0 => rfl
  | b + 1 => by rw [← Nat.add_assoc]; simp only [sumP]; rw [sumP_add f a b]; omega
theorem C_stuckBits (st : T_St) : f_St_stuckBits st = some (NN (sumP (St_stuckMask st) 8)) := by
  unfold f_St_stuckBits
  obtain ⟨s', e, h⟩ := loop_from (fun n x s => f_St_stuckBits_L4 st (fun (x3 : Int32) => some x3) n s x) (fun x3 => some x3) (fun x s => s = NN (sumP (St_stuckMask st) x)) 0 8 (n := LF) (s := NN 0)
    (by
      intro n x s hx0 hx hI
      subst hI
      refine ⟨NN (sumP (St_stuckMask st) (x + 1)), ?_, rfl⟩
      have e := C_bits (St_stuckMask st x)
      simp only [f_St_stuckBits_L4, sumP]
      repeat first | (with_reducible refine s_nmj1 ?_) | (with_reducible refine s_nmj2 ?_) | ((with_reducible refine s_nm ?_); intro y_ hy_; (try simp (disch := omega) only [n_lit, n_add, n_mul, n_sub, n_tn, n_ltT, n_ltF, n_leT, n_leF, n_eqT, n_eqF, n_div, n_ixT, n_ixF, n_not, n_md, n_dec, n_and1, n_and3, n_and7, n_and15, n_and31, n_and63, Nat.mod_eq_of_lt, Nat.zero_add, Nat.add_zero, Nat.zero_mul, Nat.sub_zero, not_false_eq_true, not_true_eq_false, upd_at, upd_ne] at hy_); subst hy_) | ((with_reducible refine s_pos ?_ ?_); · simp (disch := omega) only [n_lit, n_add, n_mul, n_sub, n_tn, n_ltT, n_ltF, n_leT, n_leF, n_eqT, n_eqF, n_div, n_ixT, n_ixF, n_not, n_md, n_dec, n_and1, n_and3, n_and7, n_and15, n_and31, n_and63, Nat.mod_eq_of_lt, Nat.zero_add, Nat.add_zero, Nat.zero_mul, Nat.sub_zero, not_false_eq_true, not_true_eq_false, upd_at, upd_ne]) | ((with_reducible refine s_neg ?_ ?_); · simp (disch := omega) only [n_lit, n_add, n_mul, n_sub, n_tn, n_ltT, n_ltF, n_leT, n_leF, n_eqT, n_eqF, n_div, n_ixT, n_ixF, n_not, n_md, n_dec, n_and1, n_and3, n_and7, n_and15, n_and31, n_and63, Nat.mod_eq_of_lt, Nat.zero_add, Nat.add_zero, Nat.zero_mul, Nat.sub_zero, not_false_eq_true, not_true_eq_false, upd_at, upd_ne])  | ((with_reducible refine s_bd (Eq.trans ?_ e) ?_); · simp (disch := omega) only [n_lit, n_add, n_mul, n_sub, n_tn, n_ltT, n_ltF, n_leT, n_leF, n_eqT, n_eqF, n_div, n_ixT, n_ixF, n_not, n_md, n_dec, n_and1, n_and3, n_and7, n_and15, n_and31, n_and63, Nat.mod_eq_of_lt, Nat.zero_add, Nat.add_zero, Nat.zero_mul, Nat.sub_zero, not_false_eq_true, not_true_eq_false, upd_at, upd_ne])
      rfl)
    (by
      intro n s _
      simp only [f_St_stuckBits_L4]
      repeat first | (with_reducible refine s_nmj1 ?_) | (with_reducible refine s_nmj2 ?_) | ((with_reducible refine s_nm ?_); intro y_ hy_; (try simp (disch := omega) only [n_lit, n_add, n_mul, n_sub, n_tn, n_ltT, n_ltF, n_leT, n_leF, n_eqT, n_eqF, n_div, n_ixT, n_ixF, n_not, n_md, n_dec, n_and1, n_and3, n_and7, n_and15, n_and31, n_and63, Nat.mod_eq_of_lt, Nat.zero_add, Nat.add_zero, Nat.zero_mul, Nat.sub_zero, not_false_eq_true, not_true_eq_false, upd_at, upd_ne] at hy_); subst hy_) | ((with_reducible refine s_pos ?_ ?_); · simp (disch := omega) only [n_lit, n_add, n_mul, n_sub, n_tn, n_ltT, n_ltF, n_leT, n_leF, n_eqT, n_eqF, n_div, n_ixT, n_ixF, n_not, n_md, n_dec, n_and1, n_and3, n_and7, n_and15, n_and31, n_and63, Nat.mod_eq_of_lt, Nat.zero_add, Nat.add_zero, Nat.zero_mul, Nat.sub_zero, not_false_eq_true, not_true_eq_false, upd_at, upd_ne]) | ((with_reducible refine s_neg ?_ ?_); · simp (disch := omega) only [n_lit, n_add, n_mul, n_sub, n_tn, n_ltT, n_ltF, n_leT, n_leF, n_eqT, n_eqF, n_div, n_ixT, n_ixF, n_not, n_md, n_dec, n_and1, n_and3, n_and7, n_and15, n_and31, n_and63, Nat.mod_eq_of_lt, Nat.zero_add, Nat.add_zero, Nat.zero_mul, Nat.sub_zero, not_false_eq_true, not_true_eq_false, upd_at, upd_ne]) 
      rfl) (by omega) (lf_big (by decide)) rfl
  rw [h] at e
  exact e
theorem M_stuck (v : T_M) : f_M_stuck v = some (NN (sumP (fun k => M_s (M_rn v) (54 + k)) 16)) := by
  unfold f_M_stuck
  obtain ⟨s', e, h⟩ := loop_from (fun n x s => f_M_stuck_L4 v (fun (x3 : Int32) => some x3) n s x) (fun x3 => some x3) (fun x s => s = NN (sumP (fun k => M_s (M_rn v) (54 + k)) x)) 0 16 (n := LF) (s := NN 0)
    (by
      intro n x s hx0 hx hI
      subst hI
      refine ⟨NN (sumP (fun k => M_s (M_rn v) (54 + k)) (x + 1)), ?_, rfl⟩
      have e := M_bits (M_s (M_rn v) (54 + x))
      simp only [f_M_stuck_L4, sumP]
      repeat first | (with_reducible refine s_nmj1 ?_) | (with_reducible refine s_nmj2 ?_) | ((with_reducible refine s_nm ?_); intro y_ hy_; (try simp (disch := omega) only [n_lit, n_add, n_mul, n_sub, n_tn, n_ltT, n_ltF, n_leT, n_leF, n_eqT, n_eqF, n_div, n_ixT, n_ixF, n_not, n_md, n_dec, n_and1, n_and3, n_and7, n_and15, n_and31, n_and63, Nat.mod_eq_of_lt, Nat.zero_add, Nat.add_zero, Nat.zero_mul, Nat.sub_zero, not_false_eq_true, not_true_eq_false, upd_at, upd_ne] at hy_); subst hy_) | ((with_reducible refine s_pos ?_ ?_); · simp (disch := omega) only [n_lit, n_add, n_mul, n_sub, n_tn, n_ltT, n_ltF, n_leT, n_leF, n_eqT, n_eqF, n_div, n_ixT, n_ixF, n_not, n_md, n_dec, n_and1, n_and3, n_and7, n_and15, n_and31, n_and63, Nat.mod_eq_of_lt, Nat.zero_add, Nat.add_zero, Nat.zero_mul, Nat.sub_zero, not_false_eq_true, not_true_eq_false, upd_at, upd_ne]) | ((with_reducible refine s_neg ?_ ?_); · simp (disch := omega) only [n_lit, n_add, n_mul, n_sub, n_tn, n_ltT, n_ltF, n_leT, n_leF, n_eqT, n_eqF, n_div, n_ixT, n_ixF, n_not, n_md, n_dec, n_and1, n_and3, n_and7, n_and15, n_and31, n_and63, Nat.mod_eq_of_lt, Nat.zero_add, Nat.add_zero, Nat.zero_mul, Nat.sub_zero, not_false_eq_true, not_true_eq_false, upd_at, upd_ne])  | ((with_reducible refine s_bd (Eq.trans ?_ e) ?_); · simp (disch := omega) only [n_lit, n_add, n_mul, n_sub, n_tn, n_ltT, n_ltF, n_leT, n_leF, n_eqT, n_eqF, n_div, n_ixT, n_ixF, n_not, n_md, n_dec, n_and1, n_and3, n_and7, n_and15, n_and31, n_and63, Nat.mod_eq_of_lt, Nat.zero_add, Nat.add_zero, Nat.zero_mul, Nat.sub_zero, not_false_eq_true, not_true_eq_false, upd_at, upd_ne])
      rfl)
    (by
      intro n s _
      simp only [f_M_stuck_L4]
      repeat first | (with_reducible refine s_nmj1 ?_) | (with_reducible refine s_nmj2 ?_) | ((with_reducible refine s_nm ?_); intro y_ hy_; (try simp (disch := omega) only [n_lit, n_add, n_mul, n_sub, n_tn, n_ltT, n_ltF, n_leT, n_leF, n_eqT, n_eqF, n_div, n_ixT, n_ixF, n_not, n_md, n_dec, n_and1, n_and3, n_and7, n_and15, n_and31, n_and63, Nat.mod_eq_of_lt, Nat.zero_add, Nat.add_zero, Nat.zero_mul, Nat.sub_zero, not_false_eq_true, not_true_eq_false, upd_at, upd_ne] at hy_); subst hy_) | ((with_reducible refine s_pos ?_ ?_); · simp (disch := omega) only [n_lit, n_add, n_mul, n_sub, n_tn, n_ltT, n_ltF, n_leT, n_leF, n_eqT, n_eqF, n_div, n_ixT, n_ixF, n_not, n_md, n_dec, n_and1, n_and3, n_and7, n_and15, n_and31, n_and63, Nat.mod_eq_of_lt, Nat.zero_add, Nat.add_zero, Nat.zero_mul, Nat.sub_zero, not_false_eq_true, not_true_eq_false, upd_at, upd_ne]) | ((with_reducible refine s_neg ?_ ?_); · simp (disch := omega) only [n_lit, n_add, n_mul, n_sub, n_tn, n_ltT, n_ltF, n_leT, n_leF, n_eqT, n_eqF, n_div, n_ixT, n_ixF, n_not, n_md, n_dec, n_and1, n_and3, n_and7, n_and15, n_and31, n_and63, Nat.mod_eq_of_lt, Nat.zero_add, Nat.add_zero, Nat.zero_mul, Nat.sub_zero, not_false_eq_true, not_true_eq_false, upd_at, upd_ne]) 
      rfl) (by omega) (lf_big (by decide)) rfl
  rw [h] at e
  exact e
theorem stuck_same {pa : T_Pa} {m : T_M} (hL : RMk 0 (Pa_leader pa) (M_s (M_rn m))) (hT : RMk 1 (Pa_trailer pa) (M_s (M_rn m))) : ∃ r, f_Pa_stuckBits pa = some r ∧ f_M_stuck m = some r := by
  have e3 := M_stuck m
  refine ⟨NN (sumP (fun k => M_s (M_rn m) (54 + k)) 16), ?_, e3⟩
  clear e3
  have e1 := C_stuckBits (Pa_leader pa)
  have e2 := C_stuckBits (Pa_trailer pa)
  have hA : sumP (fun k => M_s (M_rn m) (54 + k)) 8 = sumP (St_stuckMask (Pa_leader pa)) 8 := sumP_congr (fun k hk => by have := hL.1 k hk; rwa [show 54 + 8 * 0 + k = 54 + k by omega] at this)
  have hB : sumP (fun k => M_s (M_rn m) (54 + (8 + k))) 8 = sumP (St_stuckMask (Pa_trailer pa)) 8 := sumP_congr (fun k hk => by have := hT.1 k hk; rwa [show 54 + 8 * 1 + k = 54 + (8 + k) by omega] at this)
  have h1 : sumP (fun k => M_s (M_rn m) (54 + k)) 16 = sumP (St_stuckMask (Pa_leader pa)) 8 + sumP (St_stuckMask (Pa_trailer pa)) 8 := by
    rw [← hA, ← hB]; exact sumP_add (fun k => M_s (M_rn m) (54 + k)) 8 8
  rw [h1]
  generalize sumP (St_stuckMask (Pa_leader pa)) 8 = x at *
  generalize sumP (St_stuckMask (Pa_trailer pa)) 8 = y at *
  unfold f_Pa_stuckBits
  repeat first | (with_reducible refine s_nmj1 ?_) | (with_reducible refine s_nmj2 ?_) | ((with_reducible refine s_nm ?_); intro y_ hy_; (try simp (disch := omega) only [n_lit, n_add, n_mul, n_sub, n_tn, n_ltT, n_ltF, n_leT, n_leF, n_eqT, n_eqF, n_div, n_ixT, n_ixF, n_not, n_md, n_dec, n_and1, n_and3, n_and7, n_and15, n_and31, n_and63, Nat.mod_eq_of_lt, Nat.zero_add, Nat.add_zero, Nat.zero_mul, Nat.sub_zero, not_false_eq_true, not_true_eq_false, upd_at, upd_ne] at hy_); subst hy_) | ((with_reducible refine s_pos ?_ ?_); · simp (disch := omega) only [n_lit, n_add, n_mul, n_sub, n_tn, n_ltT, n_ltF, n_leT, n_leF, n_eqT, n_eqF, n_div, n_ixT, n_ixF, n_not, n_md, n_dec, n_and1, n_and3, n_and7, n_and15, n_and31, n_and63, Nat.mod_eq_of_lt, Nat.zero_add, Nat.add_zero, Nat.zero_mul, Nat.sub_zero, not_false_eq_true, not_true_eq_false, upd_at, upd_ne]) | ((with_reducible refine s_neg ?_ ?_); · simp (disch := omega) only [n_lit, n_add, n_mul, n_sub, n_tn, n_ltT, n_ltF, n_leT, n_leF, n_eqT, n_eqF, n_div, n_ixT, n_ixF, n_not, n_md, n_dec, n_and1, n_and3, n_and7, n_and15, n_and31, n_and63, Nat.mod_eq_of_lt, Nat.zero_add, Nat.add_zero, Nat.zero_mul, Nat.sub_zero, not_false_eq_true, not_true_eq_false, upd_at, upd_ne])  | (with_reducible refine s_bd e1 ?_) | (with_reducible refine s_bd e2 ?_)
  rw [n_add]
