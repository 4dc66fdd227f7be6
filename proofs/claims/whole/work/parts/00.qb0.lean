/-! FLOATS: to be put before q05 when done -/
/-- the bits that stand for `A * 2 ^ e`, rounded, without the sign -/
def rbits (A : Nat) (e : Int) : Nat :=
  let q := Jvm.FP.Core.quantum Jvm.FP.Core.b32 A 1 e
  min ((q + 149).toNat * 2 ^ 23 + Jvm.FP.Core.nearest (Jvm.FP.Core.unitsNum A e q) (Jvm.FP.Core.unitsDen 1 e q)) 2139095040
theorem enc_round (s : Bool) {A : Nat} (hA : 0 < A) (e : Int) : Jvm.FP.Core.encode Jvm.FP.Core.b32 (Jvm.FP.Core.roundRatio Jvm.FP.Core.b32 s A 1 e) = s.toNat * 2 ^ 31 + rbits A e := by
  have hA0 : ¬ A = 0 := by omega
  obtain ⟨q, hq⟩ : ∃ q, q = Jvm.FP.Core.quantum Jvm.FP.Core.b32 A 1 e := ⟨_, rfl⟩
  have h1 : (-149 : Int) ≤ q := by rw [hq]; exact Jvm.FP.Core.quantum_ge Jvm.FP.Core.b32 A 1 e
  have h2 := Jvm.FP.Core.nearest_units_le (f := Jvm.FP.Core.b32) hA (B := 1) (by omega) e
  have h3 := Jvm.FP.Core.quantum_not_below (f := Jvm.FP.Core.b32) hA (B := 1) (by omega) e
  rw [← hq] at h2 h3
  obtain ⟨c, hc⟩ : ∃ c, c = Jvm.FP.Core.nearest (Jvm.FP.Core.unitsNum A e q) (Jvm.FP.Core.unitsDen 1 e q) := ⟨_, rfl⟩
  have h4 : q = -149 ∨ 2 ^ 23 ≤ c := by
    rcases h3 with h3 | h3
    · exact Or.inl h3
    · refine Or.inr ?_
      rw [hc]
      refine Jvm.FP.Core.nearest_ge (Jvm.FP.Core.unitsDen_pos (by omega) _ _) ?_
      have := (Jvm.FP.Core.units_below A 1 e q 23)
      refine Nat.le_of_not_lt fun h => h3 ?_
      exact this.mp h
  rw [← hc] at h2
  have h2 : c ≤ 2 ^ 24 := h2
  have e1 : Jvm.FP.Core.roundRatio Jvm.FP.Core.b32 s A 1 e = Jvm.FP.Core.settle Jvm.FP.Core.b32 s c q := by
    unfold Jvm.FP.Core.roundRatio Jvm.FP.Core.roundAt
    rw [if_neg hA0, ← hq, ← hc]
  have e2 : rbits A e = min ((q + 149).toNat * 2 ^ 23 + c) 2139095040 := by
    unfold rbits
    simp only []
    rw [← hq, ← hc]
  rw [e1, e2]
  have ex : Jvm.FP.Core.b32.exps = 256 := rfl
  have et : Jvm.FP.Core.b32.tails = 2 ^ 23 := rfl
  have ep : 2 ^ Jvm.FP.Core.b32.p = 2 ^ 24 := rfl
  have em : Jvm.FP.Core.b32.qmax = 104 := by decide
  have en : Jvm.FP.Core.b32.qmin = -149 := by decide
  unfold Jvm.FP.Core.settle
  rw [ep]
  by_cases g : c < 2 ^ 24
  · rw [if_pos g]
    unfold Jvm.FP.Core.bound
    rw [em]
    by_cases k : q ≤ 104
    · rw [if_pos k, Nat.min_eq_left (by omega)]
      show (if c < Jvm.FP.Core.b32.tails then Jvm.FP.Core.assemble Jvm.FP.Core.b32 s 0 c else Jvm.FP.Core.assemble Jvm.FP.Core.b32 s ((q - Jvm.FP.Core.b32.qmin).toNat + 1) (c - Jvm.FP.Core.b32.tails)) = _
      unfold Jvm.FP.Core.assemble
      rw [et, ex, en]
      by_cases w : c < 2 ^ 23
      · rw [if_pos w]
        have : q = -149 := by omega
        subst this
        simp only [Nat.add_zero]
        omega
      · rw [if_neg w]
        omega
    · rw [if_neg k, Nat.min_eq_right (by omega)]
      show Jvm.FP.Core.assemble Jvm.FP.Core.b32 s (Jvm.FP.Core.b32.exps - 1) 0 = _
      unfold Jvm.FP.Core.assemble
      rw [et, ex]
      omega
  · rw [if_neg g]
    have gc : c = 2 ^ 24 := by omega
    unfold Jvm.FP.Core.bound
    rw [em]
    by_cases k : q + 1 ≤ 104
    · rw [if_pos k, Nat.min_eq_left (by omega)]
      show (if Jvm.FP.Core.b32.tails < Jvm.FP.Core.b32.tails then Jvm.FP.Core.assemble Jvm.FP.Core.b32 s 0 Jvm.FP.Core.b32.tails else Jvm.FP.Core.assemble Jvm.FP.Core.b32 s ((q + 1 - Jvm.FP.Core.b32.qmin).toNat + 1) (Jvm.FP.Core.b32.tails - Jvm.FP.Core.b32.tails)) = _
      unfold Jvm.FP.Core.assemble
      rw [if_neg (by omega), et, ex, en]
      omega
    · rw [if_neg k, Nat.min_eq_right (by omega)]
      show Jvm.FP.Core.assemble Jvm.FP.Core.b32 s (Jvm.FP.Core.b32.exps - 1) 0 = _
      unfold Jvm.FP.Core.assemble
      rw [et, ex]
      omega
theorem leading1 {A : Nat} (hA : 0 < A) : Jvm.FP.Core.leading A 1 = (A.log2 : Int) := by
  have h1 : 2 ^ A.log2 ≤ A := Nat.log2_self_le (by omega)
  unfold Jvm.FP.Core.leading
  have l1 : Nat.log2 1 = 0 := by decide
  rw [l1]
  simp only [Int.ofNat_zero, Int.sub_zero, Int.toNat_natCast, Nat.one_mul]
  rw [show (-(A.log2 : Int)).toNat = 0 by omega, if_pos (by omega)]
theorem rbits_eq {A : Nat} (hA : 0 < A) (e : Int) : Jvm.FP.Core.quantum Jvm.FP.Core.b32 A 1 e = max (-149) (e + (A.log2 + 1 : Nat) - 24) := by
  unfold Jvm.FP.Core.quantum
  rw [leading1 hA, show Jvm.FP.Core.b32.qmin = -149 by decide, show ((Jvm.FP.Core.b32.p : Nat) : Int) = 24 from rfl]
  omega
/-- the nearest whole number, as it is told by the rest and the half -/
theorem near_half (A k : Nat) : Jvm.FP.Core.nearest A (2 ^ (k + 1)) = if 2 ^ k < A % 2 ^ (k + 1) then A / 2 ^ (k + 1) + 1 else if A % 2 ^ (k + 1) = 2 ^ k then (if A / 2 ^ (k + 1) % 2 = 1 then A / 2 ^ (k + 1) + 1 else A / 2 ^ (k + 1)) else A / 2 ^ (k + 1) := by
  have h : 2 ^ (k + 1) = 2 * 2 ^ k := by rw [Nat.pow_succ, Nat.mul_comm]
  unfold Jvm.FP.Core.nearest
  rw [h]
  obtain ⟨H, hH⟩ : ∃ H, H = 2 ^ k := ⟨_, rfl⟩
  rw [← hH]
  obtain ⟨r, hr⟩ : ∃ r, r = A % (2 * H) := ⟨_, rfl⟩
  obtain ⟨d, hd⟩ : ∃ d, d = A / (2 * H) := ⟨_, rfl⟩
  rw [← hr, ← hd]
  by_cases g1 : H < r
  · rw [if_neg (by omega), if_pos (by omega), if_pos g1]
  · rw [if_neg g1]
    by_cases g2 : r = H
    · rw [if_pos g2, if_neg (by omega), if_neg (by omega)]
      by_cases g3 : d % 2 = 1
      · rw [if_pos g3, g3]
      · rw [if_neg g3, show d % 2 = 0 by omega, Nat.add_zero]
    · rw [if_neg g2, if_pos (by omega)]
theorem near_one (A : Nat) : Jvm.FP.Core.nearest A 1 = A := by
  have := Jvm.FP.Core.nearest_exact A (B := 1) (by omega)
  rwa [Nat.mul_one] at this
theorem near_far {A k : Nat} (h : 2 * A < 2 ^ k) : Jvm.FP.Core.nearest A (2 ^ k) = 0 := by
  unfold Jvm.FP.Core.nearest
  rw [Nat.mod_eq_of_lt (by omega), if_pos h, Nat.div_eq_of_lt (by omega)]
/-- what is exact in the narrow form stays as it is -/
theorem rbits_q {A : Nat} {e q : Int} (hq : q = Jvm.FP.Core.quantum Jvm.FP.Core.b32 A 1 e) : rbits A e = min ((q + 149).toNat * 2 ^ 23 + (if 0 < q - e then Jvm.FP.Core.nearest A (2 ^ (q - e).toNat) else A * 2 ^ (e - q).toNat)) 2139095040 := by
  unfold rbits
  simp only []
  rw [← hq]
  unfold Jvm.FP.Core.unitsNum Jvm.FP.Core.unitsDen
  by_cases g : 0 < q - e
  · rw [if_pos g, show (e - q).toNat = 0 by omega, Nat.pow_zero, Nat.mul_one, Nat.one_mul]
  · rw [if_neg g, show (q - e).toNat = 0 by omega, Nat.pow_zero, Nat.one_mul, near_one]
/-- what has at most 53 digits goes through the wide form unchanged -/
theorem round_wide (s : Bool) {A : Nat} (hA : A < 2 ^ 53) {e : Int} (h1 : -1074 ≤ e) (h2 : e ≤ 900) :
    Jvm.FP.Core.round Jvm.FP.Core.b32 (Jvm.FP.Core.round Jvm.FP.Core.b64 (.fin s A e)) = Jvm.FP.Core.round Jvm.FP.Core.b32 (.fin s A e) := by
  by_cases h0 : A = 0
  · subst h0
    have z : ∀ (f : Jvm.FP.Core.Fmt) (e : Int), Jvm.FP.Core.round f (.fin s 0 e) = .fin s 0 f.qmin := fun f e => by show Jvm.FP.Core.roundRatio f s 0 1 e = _; unfold Jvm.FP.Core.roundRatio; exact if_pos rfl
    rw [z, z, z]
  · have l1 : 2 ^ A.log2 ≤ A := Nat.log2_self_le h0
    have l2 : A < 2 ^ (A.log2 + 1) := Nat.lt_log2_self
    have l3 : A.log2 < 53 := (Nat.log2_lt h0).mpr hA
    obtain ⟨k, hk⟩ : ∃ k, k = min (52 - A.log2) (e + 1074).toNat := ⟨_, rfl⟩
    have en : Jvm.FP.Core.b64.qmin = -1074 := by decide
    have ex : Jvm.FP.Core.b64.qmax = 971 := by decide
    have hlt : A * 2 ^ k < 2 ^ 53 := by
      refine Nat.lt_of_lt_of_le (Nat.mul_lt_mul_of_pos_right l2 (Nat.two_pow_pos k)) ?_
      rw [← Nat.pow_add]
      exact Nat.pow_le_pow_right (by omega) (by omega)
    have hfit : Jvm.FP.Core.fits Jvm.FP.Core.b64 (.fin s (A * 2 ^ k) (e - k)) := by
      refine ⟨hlt, by rw [en]; omega, by rw [ex]; omega, ?_⟩
      rw [en]
      by_cases g : e - (k : Int) = -1074
      · exact Or.inl g
      · refine Or.inr ?_
        show 2 ^ 52 ≤ A * 2 ^ k
        refine Nat.le_trans ?_ (Nat.mul_le_mul_right (2 ^ k) l1)
        rw [← Nat.pow_add]
        exact Nat.pow_le_pow_right (by omega) (by omega)
    have e1 : Jvm.FP.Core.round Jvm.FP.Core.b64 (.fin s A e) = .fin s (A * 2 ^ k) (e - k) := by
      refine Jvm.FP.Core.roundRatio_exact Jvm.FP.Core.good_b64 (by omega) hfit ?_
      rw [show (e - (e - (k : Int))).toNat = k by omega, show (e - (k : Int) - e).toNat = 0 by omega]
      simp
    rw [e1]
    refine Jvm.FP.Core.roundRatio_congr (by omega) (by omega) ?_
    rw [show (e - (k : Int) - e).toNat = 0 by omega, show (e - (e - (k : Int))).toNat = k by omega, Nat.pow_zero, Nat.mul_one, Nat.mul_one, Nat.mul_one]
