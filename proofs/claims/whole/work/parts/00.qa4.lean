/-! what is there at the start -/
def z_Pg : T_Pg := ((fun _ => 0), (fun _ => 0), (fun _ => 0), (fun _ => 0), (fun _ => 0), (fun _ => 0), (fun _ => 0), (fun _ => 0), (0 : Int32), (0 : Int32), (0 : Int32))
def z_Rd : T_Rd := ((fun _ => 0), (0 : Int32), (0 : Int32), (-1 : Int32), (fun _ => 0), (fun _ => 0), (fun _ => 0), (fun _ => 0), (0 : Int32), (0 : Int32), (0 : Int32), (0 : Int32), (0 : Int32), (0 : Int32), (0 : Int32))
def z_Pa : T_Pa := ((fun _ => 0), ((fun _ => 0), (fun _ => 0), (fun _ => 0), (fun _ => 0), (0 : Int32), (0 : Int32)), ((fun _ => 0), (fun _ => 0), (fun _ => 0), (fun _ => 0), (0 : Int32), (0 : Int32)), ((fun _ => 0), (fun _ => 0), (fun _ => 0), (fun _ => 0), (0 : Int32), (0 : Int32)), ((fun _ => 0), (fun _ => 0), (fun _ => 0), (fun _ => 0), (fun _ => 0), (fun _ => 0), (fun _ => 0), (0 : Int32), (0 : Int32), (0 : Int32), (0 : Int32), (0 : Int32), (0 : Int32)), ((fun _ => 0), (fun _ => 0), (fun _ => 0), (fun _ => 0), (fun _ => 0), (0 : Int32), (0 : Int32)), ((fun _ => 0), (fun _ => 0), (fun _ => 0), (fun _ => 0), (0 : Int32), (0 : Int32), (0 : Int32), (0 : Int32), (0 : Int32), (0 : Int32), (0 : Int32), (0 : Int32), (0 : Int32)), (0 : Int32), (0 : Int32))
def z_M : T_M := (((fun _ => 0), (0 : Int32)), ((0 : Int32), (0 : Int32), (0 : Int32), (0 : Int32), (0 : Int32), (0 : Int32), (0 : Int32), (0 : Int32), (fun _ => 0), (fun _ => 0)), ((0 : Int32), (-1 : Int32)), ((fun _ => 0), (fun _ => 0), (fun _ => 0), (fun _ => 0), (fun _ => 0), (fun _ => 0), (fun _ => 0), (fun _ => 0), (fun _ => 0), (fun _ => 0), (fun _ => 0)), ((fun _ => 0), (0 : Int32), (fun _ => 0), (0 : Int32)), ((fun _ => 0), (fun _ => 0), (0 : Int32), (0 : Int32)), ((fun _ => 0), (0 : Int32)), ((0 : Int32), (0 : Int32), (0 : Int32), (fun _ => 0), (fun _ => 0), (fun _ => 0), (fun _ => 0)), (0 : Int32))
def z_Al : T_Al := (((fun _ => 0), (fun _ => 0), (fun _ => 0), (fun _ => 0), (0 : Int32), (0 : Int32)), (fun _ => 0), (fun _ => 0), (0 : Int32))
def z_St : T_St := ((fun _ => 0), (fun _ => 0), (fun _ => 0), (fun _ => 0), (0 : Int32), (0 : Int32))
def lbn (si x : Nat) : Int32 := (f_Rd_letterBits (sch si (NN x)) (NN (x % 9))).getD 0
def wac (si e : Nat) : Nat → Int32
  | 0 => NN 0
  | c + 1 => wac si e c ||| lbn si (9 * e + c)
theorem lb0 : ∀ x, x < 63 → x % 9 < 6 → f_Rd_letterBits (sch 0 (NN x)) (NN (x % 9)) = some (lbn 0 x) := by decide
theorem lb1 : ∀ x, x < 81 → x % 9 < 6 → f_Rd_letterBits (sch 1 (NN x)) (NN (x % 9)) = some (lbn 1 x) := by decide
theorem lb2 : ∀ x, x < 81 → x % 9 < 6 → f_Rd_letterBits (sch 2 (NN x)) (NN (x % 9)) = some (lbn 2 x) := by decide
theorem wac0 : ∀ e, e < 7 → wac 0 e 6 = NN (WP e) := by decide
theorem wac1 : ∀ e, e < 9 → wac 1 e 6 = NN (WP (7 + e)) := by decide
theorem wac2 : ∀ e, e < 9 → wac 2 e 6 = NN (WP (16 + e)) := by decide
theorem ss0 : ∀ e, e < 7 → ∀ t, t < 3 → sch 0 (NN (9 * e + 6 + t)) = NN (SSB (3 * e + t)) := by decide
theorem ss1 : ∀ e, e < 9 → ∀ t, t < 3 → sch 1 (NN (9 * e + 6 + t)) = NN (SSB (3 * (7 + e) + t)) := by decide
theorem ss2 : ∀ e, e < 9 → ∀ t, t < 3 → sch 2 (NN (9 * e + 6 + t)) = NN (SSB (3 * (16 + e) + t)) := by decide
def ENW (si b x : Nat) (w0 w : Nat → Int32) : Prop := ∀ j, w j = if b ≤ j ∧ 9 * (j - b) < x then wac si (j - b) (min 6 (x - 9 * (j - b))) else w0 j
def ENS (si b x : Nat) (s0 s : Nat → Int32) : Prop := ∀ e t, t < 3 → s (3 * (b + e) + t) = if 9 * e + 6 + t < x then sch si (NN (9 * e + 6 + t)) else s0 (3 * (b + e) + t)
theorem enter1 {si b n : Nat} (hl : slen si = NN (9 * n)) (hl2 : lenS.getD si 0 = 9 * n) (hb : b + n ≤ 25) (hlb : ∀ x, x < 9 * n → x % 9 < 6 → f_Rd_letterBits (sch si (NN x)) (NN (x % 9)) = some (lbn si x)) (rd : T_Rd) (hz : ∀ j, b ≤ j → Rd_words rd j = NN 0) :
    ∃ w s, f_Rd_enter si rd (NN b) = some ((Rd_tape rd), (Rd_filled rd), (Rd_fault rd), (Rd_faultPlace rd), w, s, (Rd_parts rd), (Rd_wantedPlaces rd), (Rd_limit rd), (Rd_position rd), (Rd_token rd), (Rd_value rd), (Rd_place rd), (Rd_toldRules rd), (Rd_toldData rd)) ∧ ENW si b (9 * n) (Rd_words rd) w ∧ ENS si b (9 * n) (Rd_sorts rd) s ∧ ∀ i, i < 3 * b → s i = Rd_sorts rd i := by
  obtain ⟨s', e, h1, h2, h3⟩ := loop_from (fun f i (s : (Nat → Int32) × (Nat → Int32)) => f_Rd_enter_L2 si (NN b) (fun (f4 : (Nat → Int32)) (f5 : (Nat → Int32)) => (some ((Rd_tape rd), (Rd_filled rd), (Rd_fault rd), (Rd_faultPlace rd), f5, f4, (Rd_parts rd), (Rd_wantedPlaces rd), (Rd_limit rd), (Rd_position rd), (Rd_token rd), (Rd_value rd), (Rd_place rd), (Rd_toldRules rd), (Rd_toldData rd)))) f i s.1 s.2)
    (fun s => some ((Rd_tape rd), (Rd_filled rd), (Rd_fault rd), (Rd_faultPlace rd), s.2, s.1, (Rd_parts rd), (Rd_wantedPlaces rd), (Rd_limit rd), (Rd_position rd), (Rd_token rd), (Rd_value rd), (Rd_place rd), (Rd_toldRules rd), (Rd_toldData rd)))
    (fun x s => ENW si b x (Rd_words rd) s.2 ∧ ENS si b x (Rd_sorts rd) s.1 ∧ ∀ i, i < 3 * b → s.1 i = Rd_sorts rd i) 0 (9 * n) (n := LF) (s := (Rd_sorts rd, Rd_words rd))
    (by
      intro f x s _ hx hI
      obtain ⟨s, w⟩ := s
      obtain ⟨i1, i2, i3⟩ := hI
      have i1 : ENW si b x (Rd_words rd) w := i1
      have i2 : ENS si b x (Rd_sorts rd) s := i2
      have en : x / 9 < n := by omega
      have hx3 : ix (NN x) (lenS.getD si 0) := by rw [hl2]; simp (disch := omega) only [n_lit, n_add, n_mul, n_sub, n_tn, n_ltT, n_ltF, n_leT, n_leF, n_eqT, n_eqF, n_div, n_ixT, n_ixF, n_not, n_md, n_dec, n_and1, n_and3, n_and7, n_and15, n_and31, n_and63, Nat.mod_eq_of_lt, Nat.zero_add, Nat.add_zero, Nat.zero_mul, Nat.sub_zero, not_false_eq_true, not_true_eq_false, upd_at, upd_ne]
      by_cases g : x % 9 < 6
      · have hb2 := hlb x hx g
        refine ⟨(s, upd w (b + x / 9) (w (b + x / 9) ||| lbn si x)), ?_, ?_, ?_, i3⟩
        · simp only [f_Rd_enter_L2]
          rw [hl]
          repeat first | (with_reducible refine s_nmj1 ?_) | (with_reducible refine s_nmj2 ?_) | ((with_reducible refine s_nm ?_); intro y_ hy_; (try simp (disch := omega) only [n_lit, n_add, n_mul, n_sub, n_tn, n_ltT, n_ltF, n_leT, n_leF, n_eqT, n_eqF, n_div, n_ixT, n_ixF, n_not, n_md, n_dec, n_and1, n_and3, n_and7, n_and15, n_and31, n_and63, Nat.mod_eq_of_lt, Nat.zero_add, Nat.add_zero, Nat.zero_mul, Nat.sub_zero, not_false_eq_true, not_true_eq_false, upd_at, upd_ne] at hy_); subst hy_) | ((with_reducible refine s_pos ?_ ?_); · simp (disch := omega) only [n_lit, n_add, n_mul, n_sub, n_tn, n_ltT, n_ltF, n_leT, n_leF, n_eqT, n_eqF, n_div, n_ixT, n_ixF, n_not, n_md, n_dec, n_and1, n_and3, n_and7, n_and15, n_and31, n_and63, Nat.mod_eq_of_lt, Nat.zero_add, Nat.add_zero, Nat.zero_mul, Nat.sub_zero, not_false_eq_true, not_true_eq_false, upd_at, upd_ne]) | ((with_reducible refine s_neg ?_ ?_); · simp (disch := omega) only [n_lit, n_add, n_mul, n_sub, n_tn, n_ltT, n_ltF, n_leT, n_leF, n_eqT, n_eqF, n_div, n_ixT, n_ixF, n_not, n_md, n_dec, n_and1, n_and3, n_and7, n_and15, n_and31, n_and63, Nat.mod_eq_of_lt, Nat.zero_add, Nat.add_zero, Nat.zero_mul, Nat.sub_zero, not_false_eq_true, not_true_eq_false, upd_at, upd_ne])  | (with_reducible refine s_pos hx3 ?_) | (with_reducible refine s_bd hb2 ?_)
          rfl
        · intro j
          show upd w (b + x / 9) (w (b + x / 9) ||| lbn si x) j = _
          by_cases q : j = b + x / 9
          · rw [upd_at q, if_pos (by omega), q, show b + x / 9 - b = x / 9 by omega, show min 6 (x + 1 - 9 * (x / 9)) = x % 9 + 1 by omega, wac, show 9 * (x / 9) + x % 9 = x by omega]
            by_cases k : x % 9 = 0
            · rw [i1 (b + x / 9), if_neg (by omega), hz _ (by omega), k]
              rfl
            · rw [i1 (b + x / 9), if_pos (by omega), show b + x / 9 - b = x / 9 by omega, show min 6 (x - 9 * (x / 9)) = x % 9 by omega]
          · rw [upd_ne q, i1 j]
            by_cases k : b ≤ j ∧ 9 * (j - b) < x
            · rw [if_pos k, if_pos (by omega), show min 6 (x - 9 * (j - b)) = 6 by omega, show min 6 (x + 1 - 9 * (j - b)) = 6 by omega]
            · rw [if_neg k, if_neg (by omega)]
        · intro e' t ht
          show s (3 * (b + e') + t) = _
          rw [i2 e' t ht]
          by_cases k : 9 * e' + 6 + t < x
          · rw [if_pos k, if_pos (by omega)]
          · rw [if_neg k, if_neg (by omega)]
      · refine ⟨(upd s (3 * (b + x / 9) + (x % 9 - 6)) (sch si (NN x)), w), ?_, ?_, ?_, fun i hi => ?_⟩
        · simp only [f_Rd_enter_L2]
          rw [hl]
          repeat first | (with_reducible refine s_nmj1 ?_) | (with_reducible refine s_nmj2 ?_) | ((with_reducible refine s_nm ?_); intro y_ hy_; (try simp (disch := omega) only [n_lit, n_add, n_mul, n_sub, n_tn, n_ltT, n_ltF, n_leT, n_leF, n_eqT, n_eqF, n_div, n_ixT, n_ixF, n_not, n_md, n_dec, n_and1, n_and3, n_and7, n_and15, n_and31, n_and63, Nat.mod_eq_of_lt, Nat.zero_add, Nat.add_zero, Nat.zero_mul, Nat.sub_zero, not_false_eq_true, not_true_eq_false, upd_at, upd_ne] at hy_); subst hy_) | ((with_reducible refine s_pos ?_ ?_); · simp (disch := omega) only [n_lit, n_add, n_mul, n_sub, n_tn, n_ltT, n_ltF, n_leT, n_leF, n_eqT, n_eqF, n_div, n_ixT, n_ixF, n_not, n_md, n_dec, n_and1, n_and3, n_and7, n_and15, n_and31, n_and63, Nat.mod_eq_of_lt, Nat.zero_add, Nat.add_zero, Nat.zero_mul, Nat.sub_zero, not_false_eq_true, not_true_eq_false, upd_at, upd_ne]) | ((with_reducible refine s_neg ?_ ?_); · simp (disch := omega) only [n_lit, n_add, n_mul, n_sub, n_tn, n_ltT, n_ltF, n_leT, n_leF, n_eqT, n_eqF, n_div, n_ixT, n_ixF, n_not, n_md, n_dec, n_and1, n_and3, n_and7, n_and15, n_and31, n_and63, Nat.mod_eq_of_lt, Nat.zero_add, Nat.add_zero, Nat.zero_mul, Nat.sub_zero, not_false_eq_true, not_true_eq_false, upd_at, upd_ne])  | (with_reducible refine s_pos hx3 ?_)
          rw [show 3 * (b + x / 9) + (x % 9 - 6) = (b + x / 9) * 3 + x % 9 - 6 by omega]
        · intro j
          show w j = _
          rw [i1 j]
          by_cases k : b ≤ j ∧ 9 * (j - b) < x
          · rw [if_pos k, if_pos (by omega), show min 6 (x - 9 * (j - b)) = 6 by omega, show min 6 (x + 1 - 9 * (j - b)) = 6 by omega]
          · rw [if_neg k, if_neg (by omega)]
        · intro e' t ht
          show upd s (3 * (b + x / 9) + (x % 9 - 6)) (sch si (NN x)) _ = _
          by_cases q : e' = x / 9 ∧ t = x % 9 - 6
          · obtain ⟨q1, q2⟩ := q
            rw [upd_at (by omega), if_pos (by omega), show 9 * e' + 6 + t = x by omega]
          · rw [upd_ne (by omega), i2 e' t ht]
            by_cases k : 9 * e' + 6 + t < x
            · rw [if_pos k, if_pos (by omega)]
            · rw [if_neg k, if_neg (by omega)]
        · exact (upd_ne (by omega)).trans (i3 i hi))
    (fun f s _ => by
      simp only [f_Rd_enter_L2]
      rw [hl]
      repeat first | (with_reducible refine s_nmj1 ?_) | (with_reducible refine s_nmj2 ?_) | ((with_reducible refine s_nm ?_); intro y_ hy_; (try simp (disch := omega) only [n_lit, n_add, n_mul, n_sub, n_tn, n_ltT, n_ltF, n_leT, n_leF, n_eqT, n_eqF, n_div, n_ixT, n_ixF, n_not, n_md, n_dec, n_and1, n_and3, n_and7, n_and15, n_and31, n_and63, Nat.mod_eq_of_lt, Nat.zero_add, Nat.add_zero, Nat.zero_mul, Nat.sub_zero, not_false_eq_true, not_true_eq_false, upd_at, upd_ne] at hy_); subst hy_) | ((with_reducible refine s_pos ?_ ?_); · simp (disch := omega) only [n_lit, n_add, n_mul, n_sub, n_tn, n_ltT, n_ltF, n_leT, n_leF, n_eqT, n_eqF, n_div, n_ixT, n_ixF, n_not, n_md, n_dec, n_and1, n_and3, n_and7, n_and15, n_and31, n_and63, Nat.mod_eq_of_lt, Nat.zero_add, Nat.add_zero, Nat.zero_mul, Nat.sub_zero, not_false_eq_true, not_true_eq_false, upd_at, upd_ne]) | ((with_reducible refine s_neg ?_ ?_); · simp (disch := omega) only [n_lit, n_add, n_mul, n_sub, n_tn, n_ltT, n_ltF, n_leT, n_leF, n_eqT, n_eqF, n_div, n_ixT, n_ixF, n_not, n_md, n_dec, n_and1, n_and3, n_and7, n_and15, n_and31, n_and63, Nat.mod_eq_of_lt, Nat.zero_add, Nat.add_zero, Nat.zero_mul, Nat.sub_zero, not_false_eq_true, not_true_eq_false, upd_at, upd_ne]) 
      rfl) (by omega) (lf_big (by omega)) ⟨fun j => by rw [if_neg (by omega)], fun e t _ => by rw [if_neg (by omega)], fun _ _ => rfl⟩
  exact ⟨s'.2, s'.1, e, h1, h2, h3⟩
