/-! floats: near numbers, sums by the wide form -/
theorem near_mid {A B c : Nat} (hB : 0 < B) (h1 : 2 * A < 2 * (c * B) + B) (h2 : 2 * (c * B) < 2 * A + B) : Jvm.FP.Core.nearest A B = c := by
  unfold Jvm.FP.Core.nearest
  have hd := Nat.div_add_mod A B
  have hm := Nat.mod_lt A hB
  by_cases g : c * B ≤ A
  · have e1 : A / B = c := by
      refine Nat.le_antisymm (Nat.le_of_lt_succ ((Nat.div_lt_iff_lt_mul hB).mpr ?_)) ((Nat.le_div_iff_mul_le hB).mpr g)
      rw [Nat.succ_mul]; omega
    rw [e1, Nat.mul_comm] at hd
    rw [e1, if_pos (by omega)]
  · obtain ⟨p, rfl⟩ : ∃ p, c = p + 1 := ⟨c - 1, by
      have : c ≠ 0 := fun z => g (by rw [z, Nat.zero_mul]; omega)
      omega⟩
    rw [Nat.add_mul, Nat.one_mul] at g h1 h2
    have e1 : A / B = p := by
      refine Nat.le_antisymm (Nat.le_of_lt_succ ((Nat.div_lt_iff_lt_mul hB).mpr ?_)) ((Nat.le_div_iff_mul_le hB).mpr (by omega))
      rw [Nat.succ_mul]; omega
    rw [e1, Nat.mul_comm] at hd
    rw [e1, if_neg (by omega), if_pos (by omega)]
theorem round_sh (f : Jvm.FP.Core.Fmt) (s : Bool) (A : Nat) (e : Int) (k : Nat) : Jvm.FP.Core.round f (.fin s (A * 2 ^ k) (e - k)) = Jvm.FP.Core.round f (.fin s A e) := by
  refine Jvm.FP.Core.roundRatio_congr (by omega) (by omega) ?_
  rw [show (e - (k : Int) - e).toNat = 0 by omega, show (e - (e - (k : Int))).toNat = k by omega, Nat.pow_zero, Nat.mul_one, Nat.mul_one, Nat.mul_one]
theorem quant32 {A L : Nat} (h : Lg A L) (e : Int) : Jvm.FP.Core.quantum Jvm.FP.Core.b32 A 1 e = max (-149) (e + (L : Int) - 23) := by
  have := Nat.two_pow_pos L
  have h0 : 0 < A := by have := h.1; omega
  rw [rbits_eq h0, Lg_eq h]; omega
theorem quant64 {A L : Nat} (h : Lg A L) (e : Int) : Jvm.FP.Core.quantum Jvm.FP.Core.b64 A 1 e = max (-1074) (e + (L : Int) - 52) := by
  have := Nat.two_pow_pos L
  have h0 : 0 < A := by have := h.1; omega
  unfold Jvm.FP.Core.quantum
  rw [leading1 h0, Lg_eq h, show Jvm.FP.Core.b64.qmin = -1074 by decide, show ((Jvm.FP.Core.b64.p : Nat) : Int) = 53 from rfl]
  omega
theorem round32_near {s : Bool} {A c : Nat} {q e : Int} {K : Nat} (hc : c < 2 ^ 24) (hc2 : 2 ^ 23 ≤ c) (hq : -149 ≤ q) (hq2 : q ≤ 104) (hK : q - e = ((K + 3 : Nat) : Int))
    (h1 : c * 2 ^ (K + 3) ≤ A + 2 ^ K) (h2 : A ≤ c * 2 ^ (K + 3) + 2 ^ K) : Jvm.FP.Core.round Jvm.FP.Core.b32 (.fin s A e) = .fin s c q := by
  have hP := Nat.two_pow_pos K
  have e3 : 2 ^ (K + 3) = 8 * 2 ^ K := by rw [Nat.pow_add]; omega
  have e2 : 2 ^ (K + 2) = 4 * 2 ^ K := by rw [Nat.pow_add]; omega
  have ec : c * 2 ^ (K + 3) = 8 * (c * 2 ^ K) := by rw [e3, Nat.mul_left_comm]
  have hlow : 2 ^ 23 * 2 ^ K ≤ c * 2 ^ K := Nat.mul_le_mul_right _ hc2
  have hup : c * 2 ^ K + 2 ^ K ≤ 2 ^ 24 * 2 ^ K := by rw [← Nat.succ_mul]; exact Nat.mul_le_mul_right _ (by omega)
  have hA : A ≠ 0 := by omega
  have p26 : 2 ^ (26 + K) = 8 * (2 ^ 23 * 2 ^ K) := by rw [Nat.pow_add]; omega
  have p27 : 2 ^ (27 + K) = 8 * (2 ^ 24 * 2 ^ K) := by rw [Nat.pow_add]; omega
  have p25 : 2 ^ (25 + K) = 4 * (2 ^ 23 * 2 ^ K) := by rw [Nat.pow_add]; omega
  show Jvm.FP.Core.roundRatio Jvm.FP.Core.b32 s A 1 e = _
  unfold Jvm.FP.Core.roundRatio Jvm.FP.Core.roundAt
  rw [if_neg hA]
  have ep : 2 ^ Jvm.FP.Core.b32.p = 2 ^ 24 := rfl
  have em : Jvm.FP.Core.b32.qmax = 104 := by decide
  have done : Jvm.FP.Core.quantum Jvm.FP.Core.b32 A 1 e = q → Jvm.FP.Core.settle Jvm.FP.Core.b32 s (Jvm.FP.Core.nearest (Jvm.FP.Core.unitsNum A e (Jvm.FP.Core.quantum Jvm.FP.Core.b32 A 1 e)) (Jvm.FP.Core.unitsDen 1 e (Jvm.FP.Core.quantum Jvm.FP.Core.b32 A 1 e))) (Jvm.FP.Core.quantum Jvm.FP.Core.b32 A 1 e) = .fin s c q := by
    intro hQ
    rw [hQ]
    unfold Jvm.FP.Core.unitsNum Jvm.FP.Core.unitsDen Jvm.FP.Core.settle Jvm.FP.Core.bound
    rw [hK, show (e - q).toNat = 0 by omega, Int.toNat_natCast, Nat.pow_zero, Nat.mul_one, Nat.one_mul, near_mid (c := c) (Nat.two_pow_pos _) (by omega) (by omega), if_pos (by rw [ep]; exact hc), if_pos (by rw [em]; exact hq2)]
  by_cases g : 2 ^ (26 + K) ≤ A
  · have hL : Lg A (26 + K) := ⟨g, by rw [show 26 + K + 1 = 27 + K by omega, p27]; omega⟩
    exact done (by rw [quant32 hL]; omega)
  · have hL : Lg A (25 + K) := ⟨by omega, by rw [show 25 + K + 1 = 26 + K by omega]; omega⟩
    have hQ := quant32 hL e
    by_cases k : q = -149
    · exact done (by rw [hQ]; omega)
    · have hQ : Jvm.FP.Core.quantum Jvm.FP.Core.b32 A 1 e = q - 1 := by rw [hQ]; omega
      have c23 : c = 2 ^ 23 := by
        refine Nat.le_antisymm (Nat.le_of_not_lt fun z => ?_) hc2
        have : (2 ^ 23 + 1) * 2 ^ K ≤ c * 2 ^ K := Nat.mul_le_mul_right _ z
        rw [Nat.add_mul, Nat.one_mul] at this
        omega
      rw [hQ]
      unfold Jvm.FP.Core.unitsNum Jvm.FP.Core.unitsDen Jvm.FP.Core.settle Jvm.FP.Core.bound
      have hc' : 2 ^ 24 * 2 ^ (K + 2) = 8 * (c * 2 ^ K) := by rw [e2, c23]; omega
      rw [show (q - 1 - e).toNat = K + 2 by omega, show (e - (q - 1)).toNat = 0 by omega, Nat.pow_zero, Nat.mul_one, Nat.one_mul, near_mid (c := 2 ^ 24) (Nat.two_pow_pos _) (by omega) (by omega), if_neg (by rw [ep]; omega), if_pos (by rw [em]; omega)]
      rw [show Jvm.FP.Core.b32.tails = 2 ^ 23 from rfl, c23, show q - 1 + 1 = q by omega]
/-- rounded to the wide form, then to another: the digits that the wide form keeps -/
theorem round64_then (f : Jvm.FP.Core.Fmt) (s : Bool) {A L : Nat} (hL : Lg A L) {e Q : Int} (hQ : Q = max (-1074) (e + (L : Int) - 52)) (h : Q ≤ 900) :
    Jvm.FP.Core.round f (Jvm.FP.Core.round Jvm.FP.Core.b64 (.fin s A e)) = Jvm.FP.Core.round f (.fin s (Jvm.FP.Core.nearest (A * 2 ^ (e - Q).toNat) (2 ^ (Q - e).toNat)) Q) := by
  have hA : 0 < A := Nat.lt_of_lt_of_le (Nat.two_pow_pos L) hL.1
  have hQ' : Jvm.FP.Core.quantum Jvm.FP.Core.b64 A 1 e = Q := by rw [quant64 hL, hQ]
  have h2 := Jvm.FP.Core.nearest_units_le (f := Jvm.FP.Core.b64) hA (B := 1) (by omega) e
  have e1 : Jvm.FP.Core.round Jvm.FP.Core.b64 (.fin s A e) = Jvm.FP.Core.settle Jvm.FP.Core.b64 s (Jvm.FP.Core.nearest (A * 2 ^ (e - Q).toNat) (2 ^ (Q - e).toNat)) Q := by
    show Jvm.FP.Core.roundRatio Jvm.FP.Core.b64 s A 1 e = _
    unfold Jvm.FP.Core.roundRatio Jvm.FP.Core.roundAt
    rw [if_neg (by omega), hQ']
    unfold Jvm.FP.Core.unitsNum Jvm.FP.Core.unitsDen
    rw [Nat.one_mul]
  rw [hQ'] at h2
  unfold Jvm.FP.Core.unitsNum Jvm.FP.Core.unitsDen at h2
  rw [Nat.one_mul] at h2
  rw [e1]
  generalize Jvm.FP.Core.nearest (A * 2 ^ (e - Q).toNat) (2 ^ (Q - e).toNat) = n at h2
  have ep : 2 ^ Jvm.FP.Core.b64.p = 2 ^ 53 := rfl
  rw [ep] at h2
  have em : Jvm.FP.Core.b64.qmax = 971 := by decide
  unfold Jvm.FP.Core.settle Jvm.FP.Core.bound
  rw [ep, em]
  by_cases g : n < 2 ^ 53
  · rw [if_pos g, if_pos (by omega)]
  · rw [if_neg g, if_pos (by omega)]
    have := round_sh f s (2 ^ 52) (Q + 1) 1
    rw [show Q + 1 - ((1 : Nat) : Int) = Q by omega] at this
    rw [show n = 2 ^ 52 * 2 ^ 1 by omega, this]
    rfl
/-- what lies very near to a number of the narrow form becomes it, also by the wide form -/
theorem round_far {s : Bool} {A c K : Nat} {q r : Int} (hc : c < 2 ^ 24) (hc2 : 2 ^ 23 ≤ c) (hr : -149 ≤ r) (hq2 : q ≤ 104) (hK : q - r = ((K + 6 : Nat) : Int))
    (hK24 : 24 ≤ K) (h1 : c * 2 ^ (K + 6) ≤ A + 2 ^ K) (h2 : A ≤ c * 2 ^ (K + 6) + 2 ^ K) :
    Jvm.FP.Core.round Jvm.FP.Core.b32 (Jvm.FP.Core.round Jvm.FP.Core.b64 (.fin s A r)) = .fin s c q := by
  have hP := Nat.two_pow_pos K
  have e6 : 2 ^ (K + 6) = 64 * 2 ^ K := by rw [Nat.pow_add]; omega
  have ec : c * 2 ^ (K + 6) = 64 * (c * 2 ^ K) := by rw [e6, Nat.mul_left_comm]
  have hlow : 2 ^ 23 * 2 ^ K ≤ c * 2 ^ K := Nat.mul_le_mul_right _ hc2
  have hup : c * 2 ^ K + 2 ^ K ≤ 2 ^ 24 * 2 ^ K := by rw [← Nat.succ_mul]; exact Nat.mul_le_mul_right _ (by omega)
  have hA : 0 < A := by omega
  have hL := Lg_of hA
  have hLlt : A.log2 < 30 + K := by
    refine Lg_lt hL ?_
    have : 2 ^ (30 + K) = 64 * (2 ^ 24 * 2 ^ K) := by rw [Nat.pow_add]; omega
    omega
  have hLge : 27 + K < A.log2 := by
    have h5 : 2 ^ (27 + K + 1) = 32 * (2 ^ 23 * 2 ^ K) := by rw [show 27 + K + 1 = 28 + K by omega, Nat.pow_add]; omega
    exact (Nat.le_log2 (by omega)).mpr (by omega)
  generalize A.log2 = L at hL hLlt hLge
  obtain ⟨Q, hQ⟩ : ∃ Q : Int, Q = max (-1074) (r + (L : Int) - 52) := ⟨_, rfl⟩
  rw [round64_then _ s hL hQ (by omega)]
  -- the units of the wide form
  obtain ⟨P, hPQ⟩ : ∃ P : Nat, q - Q = ((P + 6 : Nat) : Int) := ⟨(q - Q - 6).toNat, by omega⟩
  have f6 : 2 ^ (P + 6) = 64 * 2 ^ P := by rw [Nat.pow_add]; omega
  have f3 : 2 ^ (P + 3) = 8 * 2 ^ P := by rw [Nat.pow_add]; omega
  have fc : c * 2 ^ (P + 6) = 64 * (c * 2 ^ P) := by rw [f6, Nat.mul_left_comm]
  have flow : 2 ^ 23 * 2 ^ P ≤ c * 2 ^ P := Nat.mul_le_mul_right _ hc2
  have hPp := Nat.two_pow_pos P
  have hn : c * 2 ^ (P + 6) ≤ Jvm.FP.Core.nearest (A * 2 ^ (r - Q).toNat) (2 ^ (Q - r).toNat) + 2 ^ P ∧ Jvm.FP.Core.nearest (A * 2 ^ (r - Q).toNat) (2 ^ (Q - r).toNat) ≤ c * 2 ^ (P + 6) + 2 ^ P := by
    by_cases g : Q ≤ r
    · obtain ⟨m, hm⟩ : ∃ m : Nat, r - Q = (m : Int) := ⟨(r - Q).toNat, by omega⟩
      rw [hm, Int.toNat_natCast, show (Q - r).toNat = 0 by omega, Nat.pow_zero, near_one, show P + 6 = K + 6 + m by omega, show P = K + m by omega, Nat.pow_add, Nat.pow_add 2 K m, ← Nat.mul_assoc]
      have k1 : c * 2 ^ (K + 6) * 2 ^ m ≤ (A + 2 ^ K) * 2 ^ m := Nat.mul_le_mul_right _ h1
      have k2 : A * 2 ^ m ≤ (c * 2 ^ (K + 6) + 2 ^ K) * 2 ^ m := Nat.mul_le_mul_right _ h2
      rw [Nat.add_mul] at k1 k2
      exact ⟨k1, k2⟩
    · obtain ⟨m, hm⟩ : ∃ m : Nat, Q - r = (m : Int) := ⟨(Q - r).toNat, by omega⟩
      rw [hm, Int.toNat_natCast, show (r - Q).toNat = 0 by omega, Nat.pow_zero, Nat.mul_one]
      have hKm : K = P + m := by omega
      have k1 : c * 2 ^ (P + 6) * 2 ^ m = c * 2 ^ (K + 6) := by rw [Nat.mul_assoc, ← Nat.pow_add, show P + 6 + m = K + 6 by omega]
      have k2 : 2 ^ P * 2 ^ m = 2 ^ K := by rw [← Nat.pow_add, hKm]
      constructor
      · have : c * 2 ^ (P + 6) - 2 ^ P ≤ Jvm.FP.Core.nearest A (2 ^ m) := by
          refine Jvm.FP.Core.nearest_ge (Nat.two_pow_pos _) ?_
          rw [Nat.sub_mul, k1, k2]; omega
        omega
      · refine Jvm.FP.Core.nearest_le (Nat.two_pow_pos _) ?_
        rw [Nat.add_mul, k1, k2]; exact h2
  generalize Jvm.FP.Core.nearest (A * 2 ^ (r - Q).toNat) (2 ^ (Q - r).toNat) = n at hn
  have e3 : 2 ^ (P + 3 + 3) = 64 * 2 ^ P := by rw [Nat.pow_add, Nat.pow_add]; omega
  refine round32_near (K := P + 3) hc hc2 (by omega) hq2 (by rw [hPQ]) ?_ ?_
  · show c * 2 ^ (P + 6) ≤ _
    omega
  · show _ ≤ c * 2 ^ (P + 6) + _
    omega
theorem sg_far {s t : Bool} {X Y Z : Nat} (h : Y ≤ Z) (h2 : Z < X) : let T := Jvm.FP.Core.signed s X + Jvm.FP.Core.signed t Y; T ≠ 0 ∧ decide (T < 0) = s ∧ X ≤ T.natAbs + Z ∧ T.natAbs ≤ X + Z := by
  unfold Jvm.FP.Core.signed
  cases s <;> cases t <;> simp <;> omega
theorem sum_pure {s t : Bool} {c d : Nat} {q r : Int} (hc : c < 16777216) (hq : -149 ≤ q) (hq2 : q ≤ 104) (hcn : q = -149 ∨ 8388608 ≤ c) (hd : d < 16777216) (hr : -149 ≤ r) (hrq : r ≤ q) {D : Nat} (hD : q - r = (D : Int)) {T W : Int} {low : Nat}
    (hlow : low = if D ≤ 62 then d * 2 ^ 30 / 2 ^ D else 0)
    (hT : T = Jvm.FP.Core.signed s (c * 2 ^ 30) + Jvm.FP.Core.signed t low) (hW : W = Jvm.FP.Core.signed s (c * 2 ^ D) + Jvm.FP.Core.signed t d) :
    (T = 0 ↔ W = 0) ∧ (T < 0 ↔ W < 0) ∧ (W ≠ 0 → Jvm.FP.Core.round Jvm.FP.Core.b32 (.fin (decide (T < 0)) T.natAbs (q - 30)) = Jvm.FP.Core.round Jvm.FP.Core.b32 (Jvm.FP.Core.round Jvm.FP.Core.b64 (.fin (decide (W < 0)) W.natAbs r))) := by
  by_cases g : D ≤ 29
  · obtain ⟨m, hm⟩ : ∃ m, D + m = 30 := ⟨30 - D, by omega⟩
    have e1 : d * 2 ^ 30 / 2 ^ D = d * 2 ^ m := by
      rw [← hm, Nat.pow_add, Nat.mul_left_comm]
      exact Nat.mul_div_cancel_left _ (Nat.two_pow_pos _)
    have e2 : T = W * ((2 ^ m : Nat) : Int) := by
      rw [hT, hW, hlow, if_pos (by omega), e1, Jvm.FP.Core.signed_mul, Jvm.FP.Core.signed_mul, Jvm.FP.Core.signed_mul, Int.add_mul, Int.mul_assoc, ← Int.natCast_mul, ← Nat.pow_add, hm]
    have hp : (0 : Int) < ((2 ^ m : Nat) : Int) := Int.natCast_pos.mpr (Nat.two_pow_pos m)
    have z0 : T = 0 ↔ W = 0 := by
      rw [e2, Int.mul_eq_zero]
      omega
    have z1 : T < 0 ↔ W < 0 := by
      rw [e2]
      constructor
      · intro h
        refine Int.lt_of_not_ge fun k => ?_
        have := Int.mul_nonneg k (Int.le_of_lt hp)
        omega
      · intro h
        exact Int.mul_neg_of_neg_of_pos h hp
    refine ⟨z0, z1, fun hW0 => ?_⟩
    have e3 : decide (T < 0) = decide (W < 0) := decide_eq_decide.mpr z1
    have e4 : T.natAbs = W.natAbs * 2 ^ m := by rw [e2, Int.natAbs_mul, Int.natAbs_natCast]
    have e5 : q - 30 = r - (m : Int) := by omega
    rw [e3, e4, e5, round_sh]
    have hb : W.natAbs < 2 ^ 53 := by
      have h1 : c * 2 ^ D ≤ 16777215 * 2 ^ D := Nat.mul_le_mul_right _ (by omega)
      have h2 : 2 ^ D ≤ 2 ^ 29 := Nat.pow_le_pow_right (by omega) g
      have hb : c * 2 ^ D + d < 2 ^ 53 := by omega
      rw [hW]
      generalize c * 2 ^ D = X at hb
      unfold Jvm.FP.Core.signed
      cases s <;> cases t <;> simp <;> omega
    rw [round_wide _ hb (by omega) (by omega)]
  · obtain ⟨K, hK⟩ : ∃ K, D = K + 6 := ⟨D - 6, by omega⟩
    have hc2 : 2 ^ 23 ≤ c := by omega
    have h24 : 2 ^ 24 ≤ 2 ^ K := Nat.pow_le_pow_right (by omega) (by omega)
    have hl : low < 16777216 := by
      rw [hlow]
      by_cases k : D ≤ 62
      · rw [if_pos k]
        have h30 : 2 ^ 30 ≤ 2 ^ D := Nat.pow_le_pow_right (by omega) (by omega)
        refine Nat.lt_of_le_of_lt (Nat.div_le_div_left h30 (by omega)) ?_
        rw [Nat.mul_div_cancel _ (by omega)]
        exact hd
      · rw [if_neg k]; omega
    have hcD : 2 ^ 23 * 2 ^ D ≤ c * 2 ^ D := Nat.mul_le_mul_right _ hc2
    have hKD : 2 ^ D = 64 * 2 ^ K := by rw [hK, Nat.pow_add]; omega
    have A1 := sg_far (s := s) (t := t) (X := c * 2 ^ 30) (Y := low) (Z := 2 ^ 24) (by omega) (by omega)
    have A2 := sg_far (s := s) (t := t) (X := c * 2 ^ D) (Y := d) (Z := 2 ^ K) (by omega) (by omega)
    simp only [← hT, ← hW] at A1 A2
    obtain ⟨t0, t1, t2, t3⟩ := A1
    obtain ⟨w0, w1, w2, w3⟩ := A2
    refine ⟨by omega, ?_, fun _ => ?_⟩
    · rw [← decide_eq_decide, t1, w1]
    · have B1 := round32_near (s := s) (A := T.natAbs) (e := q - 30) (K := 27) (c := c) (q := q) (by omega) hc2 hq hq2 (by omega) (Nat.le_trans t2 (Nat.add_le_add_left (by decide) _)) (Nat.le_trans t3 (Nat.add_le_add_left (by decide) _))
      rw [t1, w1, B1]
      rw [hK] at w2 w3
      have := round_far (s := s) (A := W.natAbs) (K := K) (c := c) (q := q) (r := r) (by omega) hc2 hr hq2 (by rw [hD, hK]) (by omega) w2 w3
      exact this.symm
/-- the sum of what was widened -/
theorem sum_wide {s t : Bool} {c d : Nat} {q r : Int} (hrq : r ≤ q) {D : Nat} (hD : q - r = (D : Int)) (k j : Nat) {W : Int} (hW : W = Jvm.FP.Core.signed s (c * 2 ^ D) + Jvm.FP.Core.signed t d) :
    Jvm.FP.Core.round Jvm.FP.Core.b64 (Jvm.FP.Core.exactSum (.fin s (c * 2 ^ k) (q - k)) (.fin t (d * 2 ^ j) (r - j))) = Jvm.FP.Core.round Jvm.FP.Core.b64 (.fin (if W = 0 then s && t else decide (W < 0)) W.natAbs r) := by
  obtain ⟨m, hm⟩ : ∃ m : Int, m = min (q - (k : Int)) (r - (j : Int)) := ⟨_, rfl⟩
  obtain ⟨n, hn⟩ : ∃ n : Nat, r - m = (n : Int) := ⟨(r - m).toNat, by omega⟩
  have e1 : Jvm.FP.Core.sumUnits s (c * 2 ^ k) (q - k) t (d * 2 ^ j) (r - j) m = W * ((2 ^ n : Nat) : Int) := by
    unfold Jvm.FP.Core.sumUnits Jvm.FP.Core.inUnits
    have a1 : c * 2 ^ k * 2 ^ (q - (k : Int) - m).toNat = c * 2 ^ D * 2 ^ n := by
      rw [Nat.mul_assoc, ← Nat.pow_add, Nat.mul_assoc, ← Nat.pow_add, show k + (q - (k : Int) - m).toNat = D + n by omega]
    have a2 : d * 2 ^ j * 2 ^ (r - (j : Int) - m).toNat = d * 2 ^ n := by
      rw [Nat.mul_assoc, ← Nat.pow_add, show j + (r - (j : Int) - m).toNat = n by omega]
    rw [a1, a2, Jvm.FP.Core.signed_mul, Jvm.FP.Core.signed_mul t d, hW, Int.add_mul]
  have hp : (0 : Int) < ((2 ^ n : Nat) : Int) := Int.natCast_pos.mpr (Nat.two_pow_pos n)
  show Jvm.FP.Core.round Jvm.FP.Core.b64 (.fin (Jvm.FP.Core.sumSign s t (Jvm.FP.Core.sumUnits s (c * 2 ^ k) (q - k) t (d * 2 ^ j) (r - j) (min (q - (k : Int)) (r - (j : Int))))) (Jvm.FP.Core.sumUnits s (c * 2 ^ k) (q - k) t (d * 2 ^ j) (r - j) (min (q - (k : Int)) (r - (j : Int)))).natAbs (min (q - (k : Int)) (r - (j : Int)))) = _
  rw [← hm, e1]
  have e2 : Jvm.FP.Core.sumSign s t (W * ((2 ^ n : Nat) : Int)) = (if W = 0 then s && t else decide (W < 0)) := by
    unfold Jvm.FP.Core.sumSign
    have z0 : W * ((2 ^ n : Nat) : Int) = 0 ↔ W = 0 := by rw [Int.mul_eq_zero]; omega
    have z1 : W * ((2 ^ n : Nat) : Int) < 0 ↔ W < 0 := by
      constructor
      · intro h
        refine Int.lt_of_not_ge fun k => ?_
        have := Int.mul_nonneg k (Int.le_of_lt hp)
        omega
      · intro h
        exact Int.mul_neg_of_neg_of_pos h hp
    by_cases g : W = 0
    · rw [if_pos g, if_pos (z0.mpr g)]
    · rw [if_neg g, if_neg (fun z => g (z0.mp z))]
      exact decide_eq_decide.mpr z1
  rw [e2, Int.natAbs_mul, Int.natAbs_natCast, show m = r - (n : Int) by omega, round_sh]
theorem fl_top {n : Nat} (h : n < 4294967296) : n &&& 2147483648 = n / 2147483648 * 2147483648 := by
  have h1 : (2147483648 : Nat) = 1 <<< 31 := rfl
  have h2 : n / 2147483648 * 2147483648 = ((n >>> 31) &&& 1) <<< 31 := by
    rw [Nat.shiftLeft_eq, Nat.shiftRight_eq_div_pow, Nat.and_one_is_mod]; omega
  rw [h2, h1, Nat.shiftLeft_and_distrib]
  refine Nat.eq_of_testBit_eq fun i => ?_
  simp only [Nat.testBit_and, Nat.testBit_shiftLeft, Nat.testBit_shiftRight]
  by_cases g : i ≥ 31
  · simp [g, show 31 + (i - 31) = i by omega]
  · simp [g]
theorem bN_top (x : Int32) : bN (x &&& (-2147483648 : Int32)) = bN x / 2147483648 * 2147483648 := by
  rw [bN_and, show bN (-2147483648) = 2147483648 from rfl, fl_top (bN_lt x)]
theorem n64_of {r : UInt64} (h : Jvm.FP.Core.val64 r ≠ .nan) : n64 r := by
  have := (Jvm.FP.Core.ne_nan r).mp h
  unfold n64
  rw [UInt64.le_iff_toNat_le, UInt64.toNat_and]
  show r.toNat &&& 9223372036854775807 ≤ 9218868437227405312
  rw [show (9223372036854775807 : Nat) = 2 ^ 63 - 1 from rfl, Nat.and_two_pow_sub_one_eq_mod]
  exact this
theorem n32_of {r : UInt32} (h : Jvm.FP.Core.val32 r ≠ .nan) : n32 r := by
  have := (Jvm.FP.Core.ne_nan32 r).mp h
  unfold n32
  rw [UInt32.le_iff_toNat_le, UInt32.toNat_and]
  show r.toNat &&& 2147483647 ≤ 2139095040
  rw [show (2147483647 : Nat) = 2 ^ 31 - 1 from rfl, Nat.and_two_pow_sub_one_eq_mod]
  exact this
theorem f2d_core {x : UInt32} (h : Jvm.FP.Core.val32 x ≠ .nan) : FP.f2d x = Jvm.FP.Core.f2d x := by
  unfold FP.f2d
  rw [(Jvm.FP.Core.notNaN_iff32 x).mpr h]; rfl
theorem d2f_core {x : UInt64} (h : Jvm.FP.Core.val64 x ≠ .nan) : FP.d2f x = Jvm.FP.Core.d2f x := by
  unfold FP.d2f
  rw [(Jvm.FP.Core.notNaN_iff x).mpr h]; rfl
theorem isNaN_no {r : UInt32} (h : Jvm.FP.Core.val32 r ≠ .nan) : f_J_isNaN_12338 r = some 0 := by
  unfold f_J_isNaN_12338
  rw [show FP.fcmp r r = some .eq from Jvm.FP.Core.fcmp_self h, if_pos (by decide)]
theorem cut_of {u : UInt64} (h : Jvm.FP.Core.val64 u ≠ .nan) : f_M_cut u = some (b32of (Jvm.FP.Core.round Jvm.FP.Core.b32 (Jvm.FP.Core.val64 u))) := by
  have h1 : Jvm.FP.Core.val32 (FP.d2f u) = Jvm.FP.Core.round Jvm.FP.Core.b32 (Jvm.FP.Core.val64 u) := by rw [d2f_core h]; exact Jvm.FP.Core.val32_d2f u
  have h2 : Jvm.FP.Core.val32 (FP.d2f u) ≠ .nan := by rw [h1, Ne, Jvm.FP.Core.round_nan]; exact h
  unfold f_M_cut
  rw [if_pos (n32_of h2)]
  unfold f_J_floatToIntBits_5c35a
  rw [isNaN_no h2]
  show some (FP.d2f u).toInt32 = _
  unfold b32of
  rw [← h1, Jvm.FP.Core.of32_val32 h2]
theorem notLost {x : Int32} (h : ¬ x &&& 2139095040 = 2139095040) : vn_sni2f x = false := by
  have h1 : ¬ bN x / 8388608 % 256 = 255 := fun z => h ((bN_lost x).mpr z)
  have h2 : ¬ (x.toUInt32 &&& 2147483647 > 2139095040) := by
    rw [gt_iff_lt, UInt32.lt_iff_toNat_lt, UInt32.toNat_and]
    show ¬ 2139095040 < bN x &&& 2147483647
    rw [fl_and31]
    omega
  unfold vn_sni2f
  rw [decide_eq_false h2]; rfl
theorem worth_of {x : Int32} (h : ¬ x &&& 2139095040 = 2139095040) {s : Bool} {c : Nat} {q : Int} (hv : Jvm.FP.Core.val32 x.toUInt32 = .fin s c q) (hc : c < 16777216) (h1 : -149 ≤ q) (h2 : q ≤ 104) :
    f_M_worth x = some (FP.f2d x.toUInt32) ∧ ∃ k : Nat, Jvm.FP.Core.val64 (FP.f2d x.toUInt32) = .fin s (c * 2 ^ k) (q - k) ∧ -1074 ≤ q - k := by
  have hw : Jvm.FP.Core.val64 (FP.f2d x.toUInt32) = Jvm.FP.Core.round Jvm.FP.Core.b64 (.fin s c q) := by
    rw [f2d_core (by rw [hv]; exact fun z => nomatch z), ← hv]; exact Jvm.FP.Core.val64_f2d _
  have hk : ∃ k : Nat, Jvm.FP.Core.round Jvm.FP.Core.b64 (.fin s c q) = .fin s (c * 2 ^ k) (q - k) ∧ -1074 ≤ q - k := by
    by_cases h0 : c = 0
    · subst h0
      refine ⟨(q + 1074).toNat, ?_, by omega⟩
      show Jvm.FP.Core.roundRatio Jvm.FP.Core.b64 s 0 1 q = _
      unfold Jvm.FP.Core.roundRatio
      rw [if_pos rfl, Nat.zero_mul, show Jvm.FP.Core.b64.qmin = -1074 by decide]
      rw [show q - (((q + 1074).toNat : Nat) : Int) = -1074 by omega]
    · have hL := Lg_of (i := c) (by omega)
      have hL2 : c.log2 < 24 := Lg_lt hL hc
      generalize c.log2 = L at hL hL2
      refine ⟨52 - L, ?_, by omega⟩
      refine Jvm.FP.Core.roundRatio_exact Jvm.FP.Core.good_b64 (by omega) ⟨?_, ?_, ?_, ?_⟩ ?_
      · show _ < 2 ^ 53
        refine Nat.lt_of_lt_of_le (Nat.mul_lt_mul_of_pos_right hL.2 (Nat.two_pow_pos _)) ?_
        rw [← Nat.pow_add]
        exact Nat.pow_le_pow_right (by omega) (by omega)
      · rw [show Jvm.FP.Core.b64.qmin = -1074 by decide]; omega
      · rw [show Jvm.FP.Core.b64.qmax = 971 by decide]; omega
      · refine Or.inr ?_
        show 2 ^ 52 ≤ _
        refine Nat.le_trans ?_ (Nat.mul_le_mul_right _ hL.1)
        rw [← Nat.pow_add]
        exact Nat.pow_le_pow_right (by omega) (by omega)
      · rw [show (q - (q - ((52 - L : Nat) : Int))).toNat = 52 - L by omega, show (q - ((52 - L : Nat) : Int) - q).toNat = 0 by omega]
        simp
  obtain ⟨k, hk1, hk2⟩ := hk
  rw [hk1] at hw
  refine ⟨?_, k, hw, hk2⟩
  unfold f_M_worth
  rw [if_pos (notLost h), if_pos (n64_of (by rw [hw]; exact fun z => nomatch z))]
theorem fin_ne {s c q} : (Jvm.FP.Core.Datum.fin s c q) ≠ .nan := fun z => nomatch z
theorem rnd_ne {f : Jvm.FP.Core.Fmt} {s c q} : Jvm.FP.Core.round f (.fin s c q) ≠ .nan := by rw [Ne, Jvm.FP.Core.round_nan]; exact fin_ne
theorem F_of (x : Int32) : ∃ y, f_Fl_ofWhole x = some y ∧ f_M_cut (FP.i2d x) = some y := by
  have hv : Jvm.FP.Core.val64 (FP.i2d x) = Jvm.FP.Core.round Jvm.FP.Core.b64 (Jvm.FP.Core.ofInt x.toInt) := Jvm.FP.Core.val64_i2d x
  have hlt := x.toInt_lt
  have hle := x.le_toInt
  refine ⟨_, ?_, cut_of (by rw [hv]; exact rnd_ne)⟩
  rw [hv]
  unfold Jvm.FP.Core.ofInt
  rw [round_wide _ (by omega) (by omega) (by omega)]
  unfold f_Fl_ofWhole nm
  have e1 : (if (0 : Int64) < x.toInt64 then x.toInt64 else -x.toInt64) = LL x.toInt.natAbs := by
    refine ll_of ?_
    have e0 : x.toInt64.toInt = x.toInt := Int32.toInt_toInt64 x
    by_cases g : 0 < x.toInt
    · rw [if_pos (by rw [Int64.lt_iff_toInt_lt, e0]; exact g), e0]; omega
    · rw [if_neg (by rw [Int64.lt_iff_toInt_lt, e0]; exact g), Int64.toInt_neg, e0, Int.bmod_def]; omega
  have e2 : (x &&& (-2147483648 : Int32)) = sgw (decide (x.toInt < 0)) := by
    refine bN_inj ?_
    have hb := bN_int x
    rw [bN_top]
    have hbl := bN_lt x
    by_cases g : x.toInt < 0
    · rw [decide_eq_true g]
      have : 2 ^ 31 ≤ bN x := by split at hb <;> omega
      rw [show bN x / 2147483648 = 1 by omega]; rfl
    · rw [decide_eq_false g]
      have : bN x < 2 ^ 31 := by split at hb <;> omega
      rw [show bN x / 2147483648 = 0 by omega]; rfl
  rw [e2]
  simp only []
  rw [e1, near_spec _ (by omega) (show (0 : Int32).toInt = 0 from rfl) (by omega) (by omega)]
  rfl
