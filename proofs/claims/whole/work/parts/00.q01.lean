/-! floats: what is rounded to the narrow form -/
/-- the bits that stand for `A * 2 ^ e`, rounded, without the sign -/
def rbits (A : Nat) (e : Int) : Nat :=
  let q := Jvm.FP.Core.quantum Jvm.FP.Core.b32 A 1 e
  min ((q + 149).toNat * 2 ^ 23 + Jvm.FP.Core.nearest (Jvm.FP.Core.unitsNum A e q) (Jvm.FP.Core.unitsDen 1 e q)) 2139095040
theorem enc_round (s : Bool) {A : Nat} (hA : 0 < A) (e : Int) : Jvm.FP.Core.encode Jvm.FP.Core.b32 (Jvm.FP.Core.roundRatio Jvm.FP.Core.b32 s A 1 e) = s.toNat * 2 ^ 31 + rbits A e := by
  have hA0 : ¬ A = 0 := by omega
  obtain ⟨q, hq⟩ : ∃ q, q = Jvm.FP.Core.quantum Jvm.FP.Core.b32 A 1 e := ⟨_, rfl⟩
  have h1 : (-149 : Int) ≤ q := by rw [hq]; exact Jvm.FP.Core.quantum_ge Jvm.FP.Core.b32 A 1 e
  have h2 := Jvm.FP.Core.nearest_units_le (f := Jvm.FP.Core.b32) hA (B := 1) (by omega) e
  have h3 := Jvm.FP.Core.quantum_not_below (f := Jvm.FP.Core.b32) hA (B := 1) (by omega) e
  rw [← hq] at h2 h3
  obtain ⟨c, hc⟩ : ∃ c, c = Jvm.FP.Core.nearest (Jvm.FP.Core.unitsNum A e q) (Jvm.FP.Core.unitsDen 1 e q) := ⟨_, rfl⟩
  have h4 : q = -149 ∨ 2 ^ 23 ≤ c := by
    rcases h3 with h3 | h3
    · exact Or.inl h3
    · refine Or.inr ?_
      rw [hc]
      refine Jvm.FP.Core.nearest_ge (Jvm.FP.Core.unitsDen_pos (by omega) _ _) ?_
      have := (Jvm.FP.Core.units_below A 1 e q 23)
      refine Nat.le_of_not_lt fun h => h3 ?_
      exact this.mp h
  rw [← hc] at h2
  have h2 : c ≤ 2 ^ 24 := h2
  have e1 : Jvm.FP.Core.roundRatio Jvm.FP.Core.b32 s A 1 e = Jvm.FP.Core.settle Jvm.FP.Core.b32 s c q := by
    unfold Jvm.FP.Core.roundRatio Jvm.FP.Core.roundAt
    rw [if_neg hA0, ← hq, ← hc]
  have e2 : rbits A e = min ((q + 149).toNat * 2 ^ 23 + c) 2139095040 := by
    unfold rbits
    simp only []
    rw [← hq, ← hc]
  rw [e1, e2]
  have ex : Jvm.FP.Core.b32.exps = 256 := rfl
  have et : Jvm.FP.Core.b32.tails = 2 ^ 23 := rfl
  have ep : 2 ^ Jvm.FP.Core.b32.p = 2 ^ 24 := rfl
  have em : Jvm.FP.Core.b32.qmax = 104 := by decide
  have en : Jvm.FP.Core.b32.qmin = -149 := by decide
  unfold Jvm.FP.Core.settle
  rw [ep]
  by_cases g : c < 2 ^ 24
  · rw [if_pos g]
    unfold Jvm.FP.Core.bound
    rw [em]
    by_cases k : q ≤ 104
    · rw [if_pos k, Nat.min_eq_left (by omega)]
      show (if c < Jvm.FP.Core.b32.tails then Jvm.FP.Core.assemble Jvm.FP.Core.b32 s 0 c else Jvm.FP.Core.assemble Jvm.FP.Core.b32 s ((q - Jvm.FP.Core.b32.qmin).toNat + 1) (c - Jvm.FP.Core.b32.tails)) = _
      unfold Jvm.FP.Core.assemble
      rw [et, ex, en]
      by_cases w : c < 2 ^ 23
      · rw [if_pos w]
        have : q = -149 := by omega
        subst this
        simp only [Nat.add_zero]
        omega
      · rw [if_neg w]
        omega
    · rw [if_neg k, Nat.min_eq_right (by omega)]
      show Jvm.FP.Core.assemble Jvm.FP.Core.b32 s (Jvm.FP.Core.b32.exps - 1) 0 = _
      unfold Jvm.FP.Core.assemble
      rw [et, ex]
      omega
  · rw [if_neg g]
    have gc : c = 2 ^ 24 := by omega
    unfold Jvm.FP.Core.bound
    rw [em]
    by_cases k : q + 1 ≤ 104
    · rw [if_pos k, Nat.min_eq_left (by omega)]
      show (if Jvm.FP.Core.b32.tails < Jvm.FP.Core.b32.tails then Jvm.FP.Core.assemble Jvm.FP.Core.b32 s 0 Jvm.FP.Core.b32.tails else Jvm.FP.Core.assemble Jvm.FP.Core.b32 s ((q + 1 - Jvm.FP.Core.b32.qmin).toNat + 1) (Jvm.FP.Core.b32.tails - Jvm.FP.Core.b32.tails)) = _
      unfold Jvm.FP.Core.assemble
      rw [if_neg (by omega), et, ex, en]
      omega
    · rw [if_neg k, Nat.min_eq_right (by omega)]
      show Jvm.FP.Core.assemble Jvm.FP.Core.b32 s (Jvm.FP.Core.b32.exps - 1) 0 = _
      unfold Jvm.FP.Core.assemble
      rw [et, ex]
      omega
theorem leading1 {A : Nat} (hA : 0 < A) : Jvm.FP.Core.leading A 1 = (A.log2 : Int) := by
  have h1 : 2 ^ A.log2 ≤ A := Nat.log2_self_le (by omega)
  unfold Jvm.FP.Core.leading
  have l1 : Nat.log2 1 = 0 := by decide
  rw [l1]
  simp only [Int.ofNat_zero, Int.sub_zero, Int.toNat_natCast, Nat.one_mul]
  rw [show (-(A.log2 : Int)).toNat = 0 by omega, if_pos (by omega)]
theorem rbits_eq {A : Nat} (hA : 0 < A) (e : Int) : Jvm.FP.Core.quantum Jvm.FP.Core.b32 A 1 e = max (-149) (e + (A.log2 + 1 : Nat) - 24) := by
  unfold Jvm.FP.Core.quantum
  rw [leading1 hA, show Jvm.FP.Core.b32.qmin = -149 by decide, show ((Jvm.FP.Core.b32.p : Nat) : Int) = 24 from rfl]
  omega
/-- the nearest whole number, as it is told by the rest and the half -/
theorem near_half (A k : Nat) : Jvm.FP.Core.nearest A (2 ^ (k + 1)) = if 2 ^ k < A % 2 ^ (k + 1) then A / 2 ^ (k + 1) + 1 else if A % 2 ^ (k + 1) = 2 ^ k then (if A / 2 ^ (k + 1) % 2 = 1 then A / 2 ^ (k + 1) + 1 else A / 2 ^ (k + 1)) else A / 2 ^ (k + 1) := by
  have h : 2 ^ (k + 1) = 2 * 2 ^ k := by rw [Nat.pow_succ, Nat.mul_comm]
  unfold Jvm.FP.Core.nearest
  rw [h]
  obtain ⟨H, hH⟩ : ∃ H, H = 2 ^ k := ⟨_, rfl⟩
  rw [← hH]
  obtain ⟨r, hr⟩ : ∃ r, r = A % (2 * H) := ⟨_, rfl⟩
  obtain ⟨d, hd⟩ : ∃ d, d = A / (2 * H) := ⟨_, rfl⟩
  rw [← hr, ← hd]
  by_cases g1 : H < r
  · rw [if_neg (by omega), if_pos (by omega), if_pos g1]
  · rw [if_neg g1]
    by_cases g2 : r = H
    · rw [if_pos g2, if_neg (by omega), if_neg (by omega)]
      by_cases g3 : d % 2 = 1
      · rw [if_pos g3, g3]
      · rw [if_neg g3, show d % 2 = 0 by omega, Nat.add_zero]
    · rw [if_neg g2, if_pos (by omega)]
theorem near_one (A : Nat) : Jvm.FP.Core.nearest A 1 = A := by
  have := Jvm.FP.Core.nearest_exact A (B := 1) (by omega)
  rwa [Nat.mul_one] at this
theorem near_far {A k : Nat} (h : 2 * A < 2 ^ k) : Jvm.FP.Core.nearest A (2 ^ k) = 0 := by
  unfold Jvm.FP.Core.nearest
  rw [Nat.mod_eq_of_lt (by omega), if_pos h, Nat.div_eq_of_lt (by omega)]
/-- what is exact in the narrow form stays as it is -/
theorem rbits_q {A : Nat} {e q : Int} (hq : q = Jvm.FP.Core.quantum Jvm.FP.Core.b32 A 1 e) : rbits A e = min ((q + 149).toNat * 2 ^ 23 + (if 0 < q - e then Jvm.FP.Core.nearest A (2 ^ (q - e).toNat) else A * 2 ^ (e - q).toNat)) 2139095040 := by
  unfold rbits
  simp only []
  rw [← hq]
  unfold Jvm.FP.Core.unitsNum Jvm.FP.Core.unitsDen
  by_cases g : 0 < q - e
  · rw [if_pos g, show (e - q).toNat = 0 by omega, Nat.pow_zero, Nat.mul_one, Nat.one_mul]
  · rw [if_neg g, show (q - e).toNat = 0 by omega, Nat.pow_zero, Nat.one_mul, near_one]
/-- what has at most 53 digits goes through the wide form unchanged -/
theorem round_wide (s : Bool) {A : Nat} (hA : A < 2 ^ 53) {e : Int} (h1 : -1074 ≤ e) (h2 : e ≤ 900) :
    Jvm.FP.Core.round Jvm.FP.Core.b32 (Jvm.FP.Core.round Jvm.FP.Core.b64 (.fin s A e)) = Jvm.FP.Core.round Jvm.FP.Core.b32 (.fin s A e) := by
  by_cases h0 : A = 0
  · subst h0
    have z : ∀ (f : Jvm.FP.Core.Fmt) (e : Int), Jvm.FP.Core.round f (.fin s 0 e) = .fin s 0 f.qmin := fun f e => by show Jvm.FP.Core.roundRatio f s 0 1 e = _; unfold Jvm.FP.Core.roundRatio; exact if_pos rfl
    rw [z, z, z]
  · have l1 : 2 ^ A.log2 ≤ A := Nat.log2_self_le h0
    have l2 : A < 2 ^ (A.log2 + 1) := Nat.lt_log2_self
    have l3 : A.log2 < 53 := (Nat.log2_lt h0).mpr hA
    obtain ⟨k, hk⟩ : ∃ k, k = min (52 - A.log2) (e + 1074).toNat := ⟨_, rfl⟩
    have en : Jvm.FP.Core.b64.qmin = -1074 := by decide
    have ex : Jvm.FP.Core.b64.qmax = 971 := by decide
    have hlt : A * 2 ^ k < 2 ^ 53 := by
      refine Nat.lt_of_lt_of_le (Nat.mul_lt_mul_of_pos_right l2 (Nat.two_pow_pos k)) ?_
      rw [← Nat.pow_add]
      exact Nat.pow_le_pow_right (by omega) (by omega)
    have hfit : Jvm.FP.Core.fits Jvm.FP.Core.b64 (.fin s (A * 2 ^ k) (e - k)) := by
      refine ⟨hlt, by rw [en]; omega, by rw [ex]; omega, ?_⟩
      rw [en]
      by_cases g : e - (k : Int) = -1074
      · exact Or.inl g
      · refine Or.inr ?_
        show 2 ^ 52 ≤ A * 2 ^ k
        refine Nat.le_trans ?_ (Nat.mul_le_mul_right (2 ^ k) l1)
        rw [← Nat.pow_add]
        exact Nat.pow_le_pow_right (by omega) (by omega)
    have e1 : Jvm.FP.Core.round Jvm.FP.Core.b64 (.fin s A e) = .fin s (A * 2 ^ k) (e - k) := by
      refine Jvm.FP.Core.roundRatio_exact Jvm.FP.Core.good_b64 (by omega) hfit ?_
      rw [show (e - (e - (k : Int))).toNat = k by omega, show (e - (k : Int) - e).toNat = 0 by omega]
      simp
    rw [e1]
    refine Jvm.FP.Core.roundRatio_congr (by omega) (by omega) ?_
    rw [show (e - (k : Int) - e).toNat = 0 by omega, show (e - (e - (k : Int))).toNat = k by omega, Nat.pow_zero, Nat.mul_one, Nat.mul_one, Nat.mul_one]
theorem nn_int {n : Nat} (h : n < 2147483648) : (NN n).toInt = n := by unfold NN; exact Int32.toInt_ofNat_of_lt (by omega)
theorem fl_and8 (n : Nat) : n &&& 255 = n % 256 := Nat.and_two_pow_sub_one_eq_mod n 8
theorem fl_and23 (n : Nat) : n &&& 8388607 = n % 8388608 := Nat.and_two_pow_sub_one_eq_mod n 23
theorem fl_and31 (n : Nat) : n &&& 2147483647 = n % 2147483648 := Nat.and_two_pow_sub_one_eq_mod n 31
theorem fl_mask (n : Nat) : n &&& 2139095040 = n / 8388608 % 256 * 8388608 := by
  have h : (2139095040 : Nat) = 255 <<< 23 := rfl
  have h2 : n / 8388608 % 256 * 8388608 = ((n >>> 23) &&& 255) <<< 23 := by
    rw [Nat.shiftLeft_eq, Nat.shiftRight_eq_div_pow, fl_and8]
  rw [h2, h, Nat.shiftLeft_and_distrib]
  refine Nat.eq_of_testBit_eq fun i => ?_
  simp only [Nat.testBit_and, Nat.testBit_shiftLeft, Nat.testBit_shiftRight]
  by_cases g : i ≥ 23
  · simp [g, show 23 + (i - 23) = i by omega]
  · simp [g]
/-- the bits of a number, as a natural -/
def bN (x : Int32) : Nat := x.toBitVec.toNat
theorem bN_lt (x : Int32) : bN x < 4294967296 := x.toBitVec.isLt
theorem bN_inj {x y : Int32} (h : bN x = bN y) : x = y := Int32.toBitVec_inj.mp (BitVec.eq_of_toNat_eq h)
theorem bN_and (x y : Int32) : bN (x &&& y) = bN x &&& bN y := by unfold bN; rw [Int32.toBitVec_and, BitVec.toNat_and]
theorem bN_or (x y : Int32) : bN (x ||| y) = bN x ||| bN y := by unfold bN; rw [Int32.toBitVec_or, BitVec.toNat_or]
theorem bN_xor (x y : Int32) : bN (x ^^^ y) = bN x ^^^ bN y := by unfold bN; rw [Int32.toBitVec_xor, BitVec.toNat_xor]
theorem bN_int (x : Int32) : x.toInt = if bN x < 2147483648 then (bN x : Int) else bN x - 4294967296 := by
  have := BitVec.toInt_eq_toNat_cond x.toBitVec
  unfold bN
  rw [← Int32.toInt_toBitVec, this]
  split <;> split <;> omega
theorem bN_neg (x : Int32) : x < 0 ↔ 2147483648 ≤ bN x := by
  rw [Int32.lt_iff_toInt_lt, bN_int, show (0 : Int32).toInt = 0 from rfl]
  have := bN_lt x
  split <;> omega
theorem bN_lost (x : Int32) : (x &&& 2139095040 = 2139095040) ↔ bN x / 8388608 % 256 = 255 := by
  constructor
  · intro h
    have := congrArg bN h
    rw [bN_and, show bN 2139095040 = 2139095040 from rfl, fl_mask] at this
    omega
  · intro h
    refine bN_inj ?_
    rw [bN_and, show bN 2139095040 = 2139095040 from rfl, fl_mask]
    omega
theorem bN_null (x : Int32) : (x &&& 2139095040 = 0) ↔ bN x / 8388608 % 256 = 0 := by
  constructor
  · intro h
    have := congrArg bN h
    rw [bN_and, show bN 2139095040 = 2139095040 from rfl, fl_mask, show bN 0 = 0 from rfl] at this
    omega
  · intro h
    refine bN_inj ?_
    rw [bN_and, show bN 2139095040 = 2139095040 from rfl, fl_mask, show bN 0 = 0 from rfl]
    omega
theorem bN_field (x : Int32) : (x >>> ((23 : Int32) &&& 31)) &&& 255 = NN (bN x / 8388608 % 256) := by
  refine bN_inj ?_
  rw [bN_and, show bN 255 = 255 from rfl, fl_and8]
  have h1 : bN (NN (bN x / 8388608 % 256)) = bN x / 8388608 % 256 := by
    unfold NN
    show (BitVec.ofNat 32 _).toNat = _
    rw [BitVec.toNat_ofNat]
    omega
  rw [h1]
  have h2 : (x >>> ((23 : Int32) &&& 31)).toBitVec = x.toBitVec.sshiftRight 23 := rfl
  have h3 : (x.toBitVec.sshiftRight 23).toInt = x.toBitVec.toInt / 8388608 := by
    rw [BitVec.toInt_sshiftRight, Int.shiftRight_eq_div_pow]; rfl
  have h4 := BitVec.toInt_eq_toNat_cond (x.toBitVec.sshiftRight 23)
  have h5 := BitVec.toInt_eq_toNat_cond x.toBitVec
  unfold bN
  rw [h2]
  have := (x.toBitVec.sshiftRight 23).isLt
  have := x.toBitVec.isLt
  split at h4 <;> split at h5 <;> omega
theorem bN_u (x : Int32) : x.toUInt32.toNat = bN x := rfl
/-- what a float that isn't lost is worth -/
theorem fl_dec (x : Int32) (h : ¬ x &&& 2139095040 = 2139095040) : ∃ (c : Nat) (q : Int) (D : Int64) (E : Int32),
    Jvm.FP.Core.val32 x.toUInt32 = .fin (decide (x < 0)) c q ∧ c < 16777216 ∧ -149 ≤ q ∧ q ≤ 104 ∧ (q = -149 ∨ 8388608 ≤ c)
    ∧ f_Fl_digitsOf x = some D ∧ D.toInt = c ∧ f_Fl_exponentOf x = some E ∧ E.toInt = q := by
  have e0 : bN x / 8388608 % 256 ≠ 255 := fun g => h ((bN_lost x).mpr g)
  have hlt := bN_lt x
  have eS : Jvm.FP.Core.fieldS Jvm.FP.Core.b32 (bN x) = decide (x < 0) := by
    unfold Jvm.FP.Core.fieldS
    show (bN x / 8388608 / 256 % 2 == 1) = _
    by_cases g : x < 0
    · rw [decide_eq_true g]
      have := (bN_neg x).mp g
      rw [show bN x / 8388608 / 256 % 2 = 1 by omega]; rfl
    · rw [decide_eq_false g]
      have := Nat.lt_of_not_le fun k => g ((bN_neg x).mpr k)
      rw [show bN x / 8388608 / 256 % 2 = 0 by omega]; rfl
  have eE : Jvm.FP.Core.fieldE Jvm.FP.Core.b32 (bN x) = bN x / 8388608 % 256 := rfl
  have eT : Jvm.FP.Core.fieldT Jvm.FP.Core.b32 (bN x) = bN x % 8388608 := rfl
  unfold Jvm.FP.Core.val32 Jvm.FP.Core.decode
  rw [bN_u, eE, eT, eS, if_neg (show ¬ bN x / 8388608 % 256 = Jvm.FP.Core.b32.exps - 1 from e0)]
  have en : Jvm.FP.Core.b32.qmin = -149 := by decide
  have et : Jvm.FP.Core.b32.tails = 8388608 := rfl
  have d1 : ∀ k : Nat, k < 16777216 → ((NN k).toInt64).toInt = k := by
    intro k hk
    rw [Int32.toInt_toInt64]
    unfold NN
    rw [Int32.toInt_ofNat_of_lt (by omega)]
  by_cases g : bN x / 8388608 % 256 = 0
  · rw [if_pos g, en]
    refine ⟨_, _, ((NN (bN x % 8388608)).toInt64), -149, rfl, by omega, by omega, by omega, Or.inl rfl, ?_, d1 _ (by omega), ?_, rfl⟩
    · unfold f_Fl_digitsOf
      rw [if_pos ((bN_null x).mpr g)]
      refine congrArg (fun z : Int32 => some z.toInt64) (bN_inj ?_)
      rw [bN_and, show bN 8388607 = 8388607 from rfl, fl_and23]
      show _ = (BitVec.ofNat 32 _).toNat
      rw [BitVec.toNat_ofNat]
      omega
    · unfold f_Fl_exponentOf
      rw [bN_field, g]; rfl
  · rw [if_neg g, en, et]
    refine ⟨_, _, ((NN (8388608 + bN x % 8388608)).toInt64), NN (bN x / 8388608 % 256) - 150, rfl, by omega, by omega, by omega, Or.inr (by omega), ?_, d1 _ (by omega), ?_, ?_⟩
    · unfold f_Fl_digitsOf
      rw [if_neg (fun k => g ((bN_null x).mp k))]
      refine congrArg (fun z : Int32 => some z.toInt64) (bN_inj ?_)
      rw [bN_or, bN_and, show bN 8388607 = 8388607 from rfl, fl_and23, show bN 8388608 = 8388608 from rfl]
      show _ = (BitVec.ofNat 32 _).toNat
      rw [BitVec.toNat_ofNat]
      have := Nat.two_pow_add_eq_or_of_lt (i := 23) (b := bN x % 8388608) (by omega) 1
      rw [Nat.mul_one] at this
      rw [Nat.or_comm, ← this]
      omega
    · unfold f_Fl_exponentOf
      rw [bN_field]
      unfold nm
      rw [if_neg]
      rw [Int32.lt_iff_toInt_lt, nn_int (by omega), show (1 : Int32).toInt = 1 from rfl]
      omega
    · rw [Int32.toInt_sub, nn_int (by omega), show (150 : Int32).toInt = 150 from rfl, Int.bmod_def]
      omega
/-- `L` is the place of the leading digit of `i` -/
def Lg (i L : Nat) : Prop := 2 ^ L ≤ i ∧ i < 2 ^ (L + 1)
theorem Lg_of {i : Nat} (h : 0 < i) : Lg i i.log2 := ⟨Nat.log2_self_le (by omega), Nat.lt_log2_self⟩
theorem Lg_eq {i L : Nat} (h : Lg i L) : i.log2 = L := by
  have h0 : i ≠ 0 := by have := Nat.two_pow_pos L; have := h.1; omega
  have h1 := (Nat.log2_lt h0).mpr h.2
  have h2 : L ≤ i.log2 := (Nat.le_log2 h0).mpr h.1
  omega
theorem Lg_lt {i L k : Nat} (h : Lg i L) (hk : i < 2 ^ k) : L < k := by
  refine Nat.lt_of_not_le fun g => ?_
  have := Nat.pow_le_pow_right (n := 2) (by omega) g
  have := h.1
  omega
theorem Lg_div {i L : Nat} (k : Nat) (h : Lg i L) (hk : 2 ^ k ≤ i) : k ≤ L ∧ Lg (i / 2 ^ k) (L - k) := by
  have hL : k ≤ L := by
    refine Nat.le_of_not_lt fun g => ?_
    have := Nat.pow_le_pow_right (n := 2) (by omega) (show L + 1 ≤ k by omega)
    have := h.2
    omega
  refine ⟨hL, ?_, ?_⟩
  · refine (Nat.le_div_iff_mul_le (Nat.two_pow_pos k)).mpr ?_
    rw [← Nat.pow_add, show L - k + k = L by omega]
    exact h.1
  · refine (Nat.div_lt_iff_lt_mul (Nat.two_pow_pos k)).mpr ?_
    rw [← Nat.pow_add, show L - k + 1 + k = L + 1 by omega]
    exact h.2
theorem shr32 (i : Nat) (h : i < 4294967296) (k : Int32) (m : Nat) (hk : (k.toUInt32 &&& Int32.toUInt32 31) = UInt32.ofNat m) (hm : m < 32) : ((NN i).toUInt32 >>> (k.toUInt32 &&& Int32.toUInt32 31)).toInt32 = NN (i / 2 ^ m) := by
  rw [hk]
  refine bN_inj ?_
  have e1 : bN (NN (i / 2 ^ m)) = i / 2 ^ m := by
    have : i / 2 ^ m ≤ i := Nat.div_le_self _ _
    generalize i / 2 ^ m = j at this ⊢
    show (BitVec.ofNat 32 _).toNat = _
    rw [BitVec.toNat_ofNat]
    omega
  rw [e1]
  show ((NN i).toUInt32 >>> UInt32.ofNat m).toNat = _
  rw [UInt32.toNat_shiftRight, Nat.shiftRight_eq_div_pow]
  have e2 : (NN i).toUInt32.toNat = i := by
    show (BitVec.ofNat 32 _).toNat = _
    rw [BitVec.toNat_ofNat]
    omega
  rw [e2, UInt32.toNat_ofNat']
  rw [Nat.mod_eq_of_lt (show m < 2 ^ 32 by omega), Nat.mod_eq_of_lt hm]
theorem nn_lt {a b : Nat} (h : a < 2147483648) (h' : b < 2147483648) : NN a < NN b ↔ a < b := by
  rw [Int32.lt_iff_toInt_lt, nn_int h, nn_int h']
  omega
theorem nlz32 {i L : Nat} (h : Lg i L) (hL : L < 31) : f_J_numberOfLeadingZeros_0f7a4 (NN i) = some (NN (31 - L)) := by
  have hi : i < 2147483648 := by
    have := Nat.pow_le_pow_right (n := 2) (by omega) (show L + 1 ≤ 31 by omega)
    have := h.2
    omega
  have hp : 0 < i := Nat.lt_of_lt_of_le (Nat.two_pow_pos L) h.1
  unfold f_J_numberOfLeadingZeros_0f7a4
  rw [if_pos (show (0 : Int32) < NN i from (nn_lt (a := 0) (by omega) hi).mpr hp)]
  have fin : ∀ i L n, Lg i L → i < 4 → L ≤ n → n ≤ 31 → NN n - ((NN i).toUInt32 >>> (((1 : Int32)).toUInt32 &&& Int32.toUInt32 31)).toInt32 = NN (n - L) := by
    intro i L n h h4 hn hn'
    rw [shr32 i (by omega) 1 1 rfl (by omega)]
    have e : i / 2 ^ 1 = L := by
      have h1 := h.1
      have h2 := h.2
      have : L < 2 := Lg_lt h (k := 2) (by omega)
      rcases (show L = 0 ∨ L = 1 by omega) with g | g
      · subst g; omega
      · subst g; omega
    rw [e]
    refine Int32.toInt_inj.mp ?_
    rw [Int32.toInt_sub, nn_int (by omega), nn_int (by omega), nn_int (by omega), Int.bmod_def]
    omega
  have sub : ∀ n k : Nat, k ≤ n → n ≤ 31 → ∀ m : Int32, m.toInt = -(k : Int) → NN n + m = NN (n - k) := by
    intro n k h1 h2 m hm
    refine Int32.toInt_inj.mp ?_
    rw [Int32.toInt_add, nn_int (by omega), hm, nn_int (by omega), Int.bmod_def]
    omega
  have st4 : ∀ i L n, Lg i L → i < 16 → L ≤ n → n ≤ 31 → (if NN i < (4 : Int32) then (some (NN n - (((NN i).toUInt32 >>> (((1 : Int32)).toUInt32 &&& Int32.toUInt32 31)).toInt32))) else (nm (NN n + (-2 : Int32)) fun (x12 : Int32) => (nm (((NN i).toUInt32 >>> (((2 : Int32)).toUInt32 &&& Int32.toUInt32 31)).toInt32) fun (x13 : Int32) => (some (x12 - (((x13).toUInt32 >>> (((1 : Int32)).toUInt32 &&& Int32.toUInt32 31)).toInt32)))))) = some (NN (n - L)) := by
    intro i L n h h4 hn hn'
    by_cases g : i < 4
    · rw [if_pos (show NN i < (4 : Int32) from (nn_lt (b := 4) (by omega) (by omega)).mpr g), fin i L n h g hn hn']
    · rw [if_neg (show ¬ NN i < (4 : Int32) from fun k => g ((nn_lt (b := 4) (by omega) (by omega)).mp k))]
      have d := Lg_div 2 h (by omega)
      unfold nm
      simp only []
      rw [shr32 i (by omega) 2 2 rfl (by omega), sub n 2 (by omega) hn' (-2) rfl, fin (i / 2 ^ 2) (L - 2) (n - 2) d.2 (by omega) (by omega) (by omega)]
      rw [show n - 2 - (L - 2) = n - L by omega]
  have st : ∀ (J : Int32 → Int32 → Option Int32) (k : Nat) (kk mk bk : Int32), kk.toUInt32 &&& Int32.toUInt32 31 = UInt32.ofNat k → k < 32 → k ≤ 16 → mk.toInt = -(k : Int) → bk = NN (2 ^ k) → (∀ i L n, Lg i L → i < 2 ^ k → L ≤ n → n ≤ 31 → J (NN i) (NN n) = some (NN (n - L))) → ∀ i L n, Lg i L → i < 2147483648 → i < 2 ^ (2 * k) → L ≤ n → n ≤ 31 → (if NN i < bk then J (NN i) (NN n) else (nm (NN n + mk) fun (x15 : Int32) => (nm (((NN i).toUInt32 >>> (kk.toUInt32 &&& Int32.toUInt32 31)).toInt32) fun (x16 : Int32) => (J x16 x15)))) = some (NN (n - L)) := by
    intro J k kk mk bk e1 e2 e3 e4 e5 hJ i L n h h2 h4 hn hn'
    have b1 : 2 ^ k < 2147483648 := Nat.lt_of_le_of_lt (Nat.pow_le_pow_right (by omega) e3) (by decide)
    by_cases g : i < 2 ^ k
    · rw [if_pos (by rw [e5]; exact (nn_lt (by omega) (by omega)).mpr g)]
      exact hJ i L n h g hn hn'
    · rw [if_neg (fun z => g ((nn_lt (by omega) b1).mp (by rw [← e5]; exact z)))]
      have d := Lg_div k h (by omega)
      unfold nm
      simp only []
      rw [shr32 i (by omega) kk k e1 e2, sub n k (by omega) hn' mk e4]
      rw [hJ (i / 2 ^ k) (L - k) (n - k) d.2 ?_ (by omega) (by omega)]
      · rw [show n - k - (L - k) = n - L by omega]
      · refine (Nat.div_lt_iff_lt_mul (Nat.two_pow_pos k)).mpr ?_
        rw [← Nat.pow_add, show k + k = 2 * k by omega]
        exact h4
  have a4 := st (fun x8 x9 => if x8 < (4 : Int32) then (some (x9 - (((x8).toUInt32 >>> (((1 : Int32)).toUInt32 &&& Int32.toUInt32 31)).toInt32))) else (nm (x9 + (-2 : Int32)) fun (x12 : Int32) => (nm (((x8).toUInt32 >>> (((2 : Int32)).toUInt32 &&& Int32.toUInt32 31)).toInt32) fun (x13 : Int32) => (some (x12 - (((x13).toUInt32 >>> (((1 : Int32)).toUInt32 &&& Int32.toUInt32 31)).toInt32)))))) 4 4 (-4) 16 rfl (by omega) (by omega) rfl rfl st4
  have a8 := st (fun x5 x6 => if x5 < (16 : Int32) then ((fun x8 x9 => if x8 < (4 : Int32) then (some (x9 - (((x8).toUInt32 >>> (((1 : Int32)).toUInt32 &&& Int32.toUInt32 31)).toInt32))) else (nm (x9 + (-2 : Int32)) fun (x12 : Int32) => (nm (((x8).toUInt32 >>> (((2 : Int32)).toUInt32 &&& Int32.toUInt32 31)).toInt32) fun (x13 : Int32) => (some (x12 - (((x13).toUInt32 >>> (((1 : Int32)).toUInt32 &&& Int32.toUInt32 31)).toInt32)))))) x5 x6) else (nm (x6 + (-4 : Int32)) fun (x15 : Int32) => (nm (((x5).toUInt32 >>> (((4 : Int32)).toUInt32 &&& Int32.toUInt32 31)).toInt32) fun (x16 : Int32) => ((fun x8 x9 => if x8 < (4 : Int32) then (some (x9 - (((x8).toUInt32 >>> (((1 : Int32)).toUInt32 &&& Int32.toUInt32 31)).toInt32))) else (nm (x9 + (-2 : Int32)) fun (x12 : Int32) => (nm (((x8).toUInt32 >>> (((2 : Int32)).toUInt32 &&& Int32.toUInt32 31)).toInt32) fun (x13 : Int32) => (some (x12 - (((x13).toUInt32 >>> (((1 : Int32)).toUInt32 &&& Int32.toUInt32 31)).toInt32)))))) x16 x15)))) 8 8 (-8) 256 rfl (by omega) (by omega) rfl rfl (fun i L n h h2 => a4 i L n h (by omega) h2)
  have a16 := st (fun x2 x3 => if x2 < (256 : Int32) then ((fun x5 x6 => if x5 < (16 : Int32) then ((fun x8 x9 => if x8 < (4 : Int32) then (some (x9 - (((x8).toUInt32 >>> (((1 : Int32)).toUInt32 &&& Int32.toUInt32 31)).toInt32))) else (nm (x9 + (-2 : Int32)) fun (x12 : Int32) => (nm (((x8).toUInt32 >>> (((2 : Int32)).toUInt32 &&& Int32.toUInt32 31)).toInt32) fun (x13 : Int32) => (some (x12 - (((x13).toUInt32 >>> (((1 : Int32)).toUInt32 &&& Int32.toUInt32 31)).toInt32)))))) x5 x6) else (nm (x6 + (-4 : Int32)) fun (x15 : Int32) => (nm (((x5).toUInt32 >>> (((4 : Int32)).toUInt32 &&& Int32.toUInt32 31)).toInt32) fun (x16 : Int32) => ((fun x8 x9 => if x8 < (4 : Int32) then (some (x9 - (((x8).toUInt32 >>> (((1 : Int32)).toUInt32 &&& Int32.toUInt32 31)).toInt32))) else (nm (x9 + (-2 : Int32)) fun (x12 : Int32) => (nm (((x8).toUInt32 >>> (((2 : Int32)).toUInt32 &&& Int32.toUInt32 31)).toInt32) fun (x13 : Int32) => (some (x12 - (((x13).toUInt32 >>> (((1 : Int32)).toUInt32 &&& Int32.toUInt32 31)).toInt32)))))) x16 x15)))) x2 x3) else (nm (x3 + (-8 : Int32)) fun (x18 : Int32) => (nm (((x2).toUInt32 >>> (((8 : Int32)).toUInt32 &&& Int32.toUInt32 31)).toInt32) fun (x19 : Int32) => ((fun x5 x6 => if x5 < (16 : Int32) then ((fun x8 x9 => if x8 < (4 : Int32) then (some (x9 - (((x8).toUInt32 >>> (((1 : Int32)).toUInt32 &&& Int32.toUInt32 31)).toInt32))) else (nm (x9 + (-2 : Int32)) fun (x12 : Int32) => (nm (((x8).toUInt32 >>> (((2 : Int32)).toUInt32 &&& Int32.toUInt32 31)).toInt32) fun (x13 : Int32) => (some (x12 - (((x13).toUInt32 >>> (((1 : Int32)).toUInt32 &&& Int32.toUInt32 31)).toInt32)))))) x5 x6) else (nm (x6 + (-4 : Int32)) fun (x15 : Int32) => (nm (((x5).toUInt32 >>> (((4 : Int32)).toUInt32 &&& Int32.toUInt32 31)).toInt32) fun (x16 : Int32) => ((fun x8 x9 => if x8 < (4 : Int32) then (some (x9 - (((x8).toUInt32 >>> (((1 : Int32)).toUInt32 &&& Int32.toUInt32 31)).toInt32))) else (nm (x9 + (-2 : Int32)) fun (x12 : Int32) => (nm (((x8).toUInt32 >>> (((2 : Int32)).toUInt32 &&& Int32.toUInt32 31)).toInt32) fun (x13 : Int32) => (some (x12 - (((x13).toUInt32 >>> (((1 : Int32)).toUInt32 &&& Int32.toUInt32 31)).toInt32)))))) x16 x15)))) x19 x18)))) 16 16 (-16) 65536 rfl (by omega) (by omega) rfl rfl (fun i L n h h2 => a8 i L n h (by omega) h2)
  exact a16 i L 31 h hi (by omega) (by omega) (by omega)
def LL (n : Nat) : Int64 := Int64.ofNat n
theorem ll_int {n : Nat} (h : n < 9223372036854775808) : (LL n).toInt = n := by unfold LL; exact Int64.toInt_ofNat_of_lt (by omega)
theorem ll_of {x : Int64} {n : Nat} (h : x.toInt = n) : x = LL n := by
  have : x.toInt < 9223372036854775808 := x.toInt_lt
  exact Int64.toInt_inj.mp (by rw [h, ll_int (by omega)])
theorem ll_32 (n : Nat) : (LL n).toInt32 = NN n := by
  unfold LL NN
  exact Int64.toInt32_ofNat
theorem ll_u (n : Nat) (h : n < 18446744073709551616) : (LL n).toUInt64.toNat = n := by
  show (BitVec.ofNat 64 _).toNat = _
  rw [BitVec.toNat_ofNat]
  omega
theorem ll_hi {n : Nat} (h : n < 9223372036854775808) : (((LL n).toUInt64 >>> (((32 : Int32)).toInt64.toUInt64 &&& Int64.toUInt64 63)).toInt64) = LL (n / 4294967296) := by
  have e : (((32 : Int32)).toInt64.toUInt64 &&& Int64.toUInt64 63) = UInt64.ofNat 32 := rfl
  rw [e]
  refine Int64.toBitVec_inj.mp (BitVec.eq_of_toNat_eq ?_)
  show ((LL n).toUInt64 >>> UInt64.ofNat 32).toNat = (BitVec.ofNat 64 _).toNat
  rw [UInt64.toNat_shiftRight, Nat.shiftRight_eq_div_pow, ll_u n (by omega), BitVec.toNat_ofNat, UInt64.toNat_ofNat']
  show n / 2 ^ 32 = _
  omega
theorem nlz64 {n L : Nat} (h : Lg n L) (hL : L < 63) : f_J_numberOfLeadingZeros_95d88 (LL n) = some (NN (63 - L)) := by
  have hn : n < 9223372036854775808 := by
    have := Nat.pow_le_pow_right (n := 2) (by omega) (show L + 1 ≤ 63 by omega)
    have := h.2
    omega
  have hp : 0 < n := Nat.lt_of_lt_of_le (Nat.two_pow_pos L) h.1
  unfold f_J_numberOfLeadingZeros_95d88
  rw [ll_hi hn, ll_32, ll_32]
  unfold nm
  simp only []
  by_cases g : n < 4294967296
  · rw [show n / 4294967296 = 0 by omega, if_pos (show NN 0 = 0 from rfl)]
    by_cases k : n < 2147483648
    · have hL2 : L < 31 := Lg_lt h k
      rw [nlz32 h hL2]
      show some _ = some _
      refine congrArg some (Int32.toInt_inj.mp ?_)
      rw [Int32.toInt_add, nn_int (by omega), nn_int (by omega), show (32 : Int32).toInt = 32 from rfl, Int.bmod_def]
      omega
    · have hL2 : L = 31 := by
        have := Lg_lt (k := 32) h g
        refine Nat.le_antisymm (by omega) (Nat.le_of_not_lt fun z => ?_)
        have := Nat.pow_le_pow_right (n := 2) (by omega) (show L + 1 ≤ 31 by omega)
        have := h.2
        omega
      have hneg : NN n < 0 := by
        rw [bN_neg]
        show _ ≤ (BitVec.ofNat 32 _).toNat
        rw [BitVec.toNat_ofNat]
        omega
      have h0 : ¬ (0 : Int32) < NN n := by
        rw [Int32.lt_iff_toInt_lt] at hneg ⊢
        omega
      have h1 : ¬ NN n = 0 := fun z => by rw [z] at hneg; exact absurd hneg (by decide)
      unfold f_J_numberOfLeadingZeros_0f7a4
      rw [if_neg h0, if_neg h1, hL2]
      rfl
  · have h0 : ¬ NN (n / 4294967296) = 0 := fun z => by
      have := congrArg Int32.toInt z
      rw [nn_int (by omega)] at this
      have e0 : (0 : Int32).toInt = 0 := rfl
      omega
    have d := Lg_div 32 h (show 2 ^ 32 ≤ n by omega)
    rw [if_neg h0, nlz32 (i := n / 4294967296) d.2 (by omega)]
    show some _ = some _
    rw [show 31 - (L - 32) = 63 - L by omega]
theorem lg_pos {n m : Nat} (h : n < 9223372036854775808) (h' : m < 9223372036854775808) : lg_cmp (LL n) (LL m) = if m < n then 1 else if n = m then 0 else -1 := by
  unfold lg_cmp
  have e1 : LL n > LL m ↔ m < n := by
    rw [gt_iff_lt, Int64.lt_iff_toInt_lt, ll_int h, ll_int h']; omega
  have e2 : LL n = LL m ↔ n = m := by
    rw [← Int64.toInt_inj, ll_int h, ll_int h']; omega
  by_cases g : m < n
  · rw [if_pos g, if_pos (e1.mpr g)]
  · rw [if_neg g, if_neg (fun z => g (e1.mp z))]
    by_cases k : n = m
    · rw [if_pos k, if_pos (e2.mpr k)]
    · rw [if_neg k, if_neg (fun z => k (e2.mp z))]
theorem sh_am : ∀ m : Fin 64, ((NN m.val).toInt64 &&& 63).toBitVec.smod 64#64 = BitVec.ofNat 64 m.val := by decide +kernel
theorem ll_shr {a m : Nat} (h : a < 9223372036854775808) (hm : m < 64) : LL a >>> ((NN m).toInt64 &&& 63) = LL (a / 2 ^ m) := by
  refine Int64.toInt_inj.mp ?_
  have hd : a / 2 ^ m ≤ a := Nat.div_le_self _ _
  rw [ll_int (by omega)]
  show ((LL a).toBitVec.sshiftRight' (((NN m).toInt64 &&& 63).toBitVec.smod 64#64)).toInt = _
  rw [sh_am ⟨m, hm⟩, BitVec.toInt_sshiftRight', BitVec.toNat_ofNat, Nat.mod_eq_of_lt (by show m < _; omega), Int.shiftRight_eq_div_pow]
  show (LL a).toInt / _ = _
  rw [ll_int h]
  exact (Int.natCast_ediv a (2 ^ m)).symm
theorem ll_shl {a m : Nat} (h : a * 2 ^ m < 9223372036854775808) (hm : m < 64) : LL a <<< ((NN m).toInt64 &&& 63) = LL (a * 2 ^ m) := by
  refine Int64.toBitVec_inj.mp (BitVec.eq_of_toNat_eq ?_)
  show ((LL a).toBitVec <<< (((NN m).toInt64 &&& 63).toBitVec.smod 64#64)).toNat = (BitVec.ofNat 64 _).toNat
  rw [sh_am ⟨m, hm⟩, BitVec.toNat_ofNat]
  show ((LL a).toBitVec <<< (BitVec.ofNat 64 m).toNat).toNat = _
  rw [BitVec.toNat_ofNat, Nat.mod_eq_of_lt (by show m < _; omega), BitVec.toNat_shiftLeft, Nat.shiftLeft_eq]
  have hd : a ≤ a * 2 ^ m := Nat.le_mul_of_pos_right _ (Nat.two_pow_pos m)
  have : (LL a).toBitVec.toNat = a := by
    show (BitVec.ofNat 64 _).toNat = _
    rw [BitVec.toNat_ofNat]
    omega
  rw [this]
theorem ll_add {a b : Nat} : LL a + LL b = LL (a + b) := (Int64.ofNat_add a b).symm
theorem ll_sub {a b : Nat} (h : b ≤ a) : LL a - LL b = LL (a - b) := by
  unfold LL
  have := Int64.ofNat_add (a - b) b
  rw [show a - b + b = a by omega] at this
  rw [this, Int64.add_sub_cancel]
theorem ll_lt {a b : Nat} (h : a < 9223372036854775808) (h' : b < 9223372036854775808) : LL a < LL b ↔ a < b := by
  rw [Int64.lt_iff_toInt_lt, ll_int h, ll_int h']; omega
theorem ll_and1 (a : Nat) : LL a &&& (1 : Int64) = LL (a % 2) := by
  refine Int64.toBitVec_inj.mp (BitVec.eq_of_toNat_eq ?_)
  show ((LL a).toBitVec &&& 1#64).toNat = (BitVec.ofNat 64 _).toNat
  rw [BitVec.toNat_and, BitVec.toNat_ofNat, BitVec.toNat_ofNat]
  show (BitVec.ofNat 64 a).toNat &&& _ = _
  rw [BitVec.toNat_ofNat, show (1 % 2 ^ 64 : Nat) = 1 from rfl, Nat.and_one_is_mod]
  omega
theorem ii_eq {x : Int32} {n : Nat} (h : x.toInt = n) : x = NN n := by
  have : x.toInt < 2147483648 := x.toInt_lt
  exact Int32.toInt_inj.mp (by rw [h, nn_int (by omega)])
theorem ii_sub {x y : Int32} {a b : Int} (hx : x.toInt = a) (hy : y.toInt = b) (h1 : -2147483648 ≤ a - b) (h2 : a - b < 2147483648) : (x - y).toInt = a - b := by
  rw [Int32.toInt_sub, hx, hy, Int.bmod_def]; omega
theorem ii_add {x y : Int32} {a b : Int} (hx : x.toInt = a) (hy : y.toInt = b) (h1 : -2147483648 ≤ a + b) (h2 : a + b < 2147483648) : (x + y).toInt = a + b := by
  rw [Int32.toInt_add, hx, hy, Int.bmod_def]; omega
theorem ii_neg {x : Int32} {a : Int} (hx : x.toInt = a) (h1 : -2147483648 < a) : (-x).toInt = -a := by
  have := x.toInt_lt
  have := x.le_toInt
  rw [Int32.toInt_neg, hx, Int.bmod_def]; omega
theorem ii_lt {x y : Int32} {a b : Int} (hx : x.toInt = a) (hy : y.toInt = b) : x < y ↔ a < b := by rw [Int32.lt_iff_toInt_lt, hx, hy]
theorem ii_le {x y : Int32} {a b : Int} (hx : x.toInt = a) (hy : y.toInt = b) : x ≤ y ↔ a ≤ b := by rw [Int32.le_iff_toInt_le, hx, hy]
def sgw (s : Bool) : Int32 := if s then -2147483648 else 0
/-- the number of 32 bits that stands for the datum -/
def b32of (d : Jvm.FP.Core.Datum) : Int32 := (Jvm.FP.Core.of32 d).toInt32
theorem near_tail (s : Bool) (Q c : Nat) (hQ : Q < 2048) (hc : c < 9007199254740992) :
    (nm ((((NN Q).toInt64) <<< (((23 : Int32)).toInt64 &&& 63)) + LL c) fun (x9 : Int64) => (nm (if (2139095040 : Int64) < x9 then (2139095040 : Int64) else x9) fun (x10 : Int64) => (some (sgw s ||| ((x10).toInt32))))) = some (Int32.ofNat (s.toNat * 2 ^ 31 + min (Q * 2 ^ 23 + c) 2139095040)) := by
  have e1 : (NN Q).toInt64 = LL Q := Int64.toInt_inj.mp (by rw [Int32.toInt_toInt64, nn_int (by omega), ll_int (by omega)])
  have e2 := ll_shl (a := Q) (m := 23) (by omega) (by omega)
  rw [e1, show (23 : Int32) = NN 23 from rfl, e2, ll_add]
  unfold nm
  simp only []
  have e3 : (if (2139095040 : Int64) < LL (Q * 2 ^ 23 + c) then (2139095040 : Int64) else LL (Q * 2 ^ 23 + c)) = LL (min (Q * 2 ^ 23 + c) 2139095040) := by
    by_cases g : 2139095040 < Q * 2 ^ 23 + c
    · rw [if_pos (show (2139095040 : Int64) < _ from (ll_lt (a := 2139095040) (by omega) (by omega)).mpr g), Nat.min_eq_right (by omega)]; rfl
    · rw [if_neg (show ¬ (2139095040 : Int64) < _ from fun z => g ((ll_lt (a := 2139095040) (by omega) (by omega)).mp z)), Nat.min_eq_left (by omega)]
  rw [e3, ll_32]
  refine congrArg some (bN_inj ?_)
  have hm : min (Q * 2 ^ 23 + c) 2139095040 ≤ 2139095040 := Nat.min_le_right _ _
  generalize min (Q * 2 ^ 23 + c) 2139095040 = m at hm
  rw [bN_or]
  have e4 : bN (NN m) = m := by
    show (BitVec.ofNat 32 _).toNat = _
    rw [BitVec.toNat_ofNat]
    omega
  have e5 : ∀ k, k < 4294967296 → bN (Int32.ofNat k) = k := by
    intro k hk
    show (BitVec.ofNat 32 _).toNat = _
    rw [BitVec.toNat_ofNat]
    omega
  rw [e4, e5 _ (by cases s <;> simp <;> omega)]
  cases s
  · show 0 ||| m = _
    simp
  · show 2147483648 ||| m = _
    have := Nat.two_pow_add_eq_or_of_lt (i := 31) (b := m) (by omega) 1
    rw [Nat.mul_one] at this
    simp only [Bool.toNat_true, Nat.one_mul]
    exact this.symm
theorem near_spec (s : Bool) {A : Nat} (hA : A < 4611686018427387904) {E : Int32} {e : Int} (hE : E.toInt = e) (h1 : -1000 ≤ e) (h2 : e ≤ 1000) :
    f_Fl_nearest (sgw s) (LL A) E = some (b32of (Jvm.FP.Core.round Jvm.FP.Core.b32 (.fin s A e))) := by
  have hb : ∀ k, (UInt32.ofNat k).toInt32 = Int32.ofNat k := fun k => rfl
  by_cases h0 : A = 0
  · subst h0
    have z : Jvm.FP.Core.round Jvm.FP.Core.b32 (.fin s 0 e) = .fin s 0 (-149) := by
      show Jvm.FP.Core.roundRatio Jvm.FP.Core.b32 s 0 1 e = _; unfold Jvm.FP.Core.roundRatio; rw [if_pos rfl]; rfl
    rw [z]
    unfold f_Fl_nearest
    rw [if_neg (by decide)]
    cases s <;> rfl
  · have hL := Lg_of (i := A) (by omega)
    have hL2 : A.log2 < 62 := Lg_lt hL hA
    unfold b32of Jvm.FP.Core.of32
    rw [hb]
    show _ = some (Int32.ofNat (Jvm.FP.Core.encode Jvm.FP.Core.b32 (Jvm.FP.Core.roundRatio Jvm.FP.Core.b32 s A 1 e)))
    rw [enc_round s (by omega) e]
    have hq := rbits_eq (A := A) (by omega) e
    rw [rbits_q rfl, hq]
    obtain ⟨q, hqq⟩ : ∃ q, q = max (-149) (e + ((A.log2 + 1 : Nat) : Int) - 24) := ⟨_, rfl⟩
    rw [← hqq]
    generalize A.log2 = L at hL hL2 hq hqq
    unfold f_Fl_nearest
    rw [if_pos (show (0 : Int32) < lg_cmp (LL A) 0 by
      rw [show (0 : Int64) = LL 0 from rfl, lg_pos (by omega) (by omega), if_pos (by omega)]; decide), nlz64 hL (by omega)]
    show nm _ _ = _
    have i1 : ((64 : Int32) - NN (63 - L)) = NN (L + 1) := ii_eq (by
      rw [ii_sub (a := 64) (b := ((63 - L : Nat) : Int)) rfl (nn_int (by omega)) (by omega) (by omega)]; omega)
    have i2 : (E + NN (L + 1) - 24).toInt = e + ((L + 1 : Nat) : Int) - 24 := ii_sub (ii_add hE (nn_int (by omega)) (by omega) (by omega)) rfl (by omega) (by omega)
    unfold nm
    simp only []
    rw [i1]
    obtain ⟨X, hX, hXi⟩ : ∃ X, X = (if E + NN (L + 1) - 24 < (-149 : Int32) then (-149 : Int32) else E + NN (L + 1) - 24) ∧ X.toInt = q := by
      refine ⟨_, rfl, ?_⟩
      by_cases g : e + ((L + 1 : Nat) : Int) - 24 < -149
      · rw [if_pos ((ii_lt (b := -149) i2 rfl).mpr g)]
        show (-149 : Int) = _
        omega
      · rw [if_neg (fun z => g ((ii_lt (b := -149) i2 rfl).mp z)), i2]
        omega
    rw [← hX]
    have i3 : (X - E).toInt = q - e := ii_sub hXi hE (by omega) (by omega)
    have i4 : X + 149 = NN (q + 149).toNat := ii_eq (by rw [ii_add (b := 149) hXi rfl (by omega) (by omega)]; omega)
    rw [i4]
    have T := near_tail s (q + 149).toNat
    unfold nm at T
    simp only [] at T
    by_cases g : 0 < q - e
    · rw [if_pos ((ii_lt (a := 0) rfl i3).mpr g), if_pos g]
      by_cases k : q - e ≤ 62
      · rw [if_pos ((ii_le (b := 62) i3 rfl).mpr k)]
        obtain ⟨m, hm⟩ : ∃ m : Nat, q - e = (m + 1 : Nat) := ⟨(q - e - 1).toNat, by omega⟩
        have i5 : X - E = NN (m + 1) := ii_eq (by rw [i3, hm])
        have i6 : NN (m + 1) - 1 = NN m := ii_eq (by rw [ii_sub (b := 1) (nn_int (by omega)) rfl (by omega) (by omega)]; omega)
        rw [i5, i6, hm, Int.toNat_natCast, near_half]
        have hd : A / 2 ^ (m + 1) ≤ A := Nat.div_le_self _ _
        have hmm : A / 2 ^ (m + 1) * 2 ^ (m + 1) ≤ A := Nat.div_mul_le_self _ _
        have hmo : A % 2 ^ (m + 1) = A - A / 2 ^ (m + 1) * 2 ^ (m + 1) := by
          have := Nat.div_add_mod A (2 ^ (m + 1))
          rw [Nat.mul_comm] at this
          omega
        have hml : A % 2 ^ (m + 1) ≤ A := Nat.mod_le _ _
        have hpm : 2 ^ m < 9223372036854775808 := Nat.lt_of_le_of_lt (Nat.pow_le_pow_right (by omega) (show m ≤ 61 by omega)) (by decide)
        have hc1 : A / 2 ^ (m + 1) < 2 ^ 24 := by
          refine (Nat.div_lt_iff_lt_mul (Nat.two_pow_pos _)).mpr ?_
          refine Nat.lt_of_lt_of_le hL.2 ?_
          rw [← Nat.pow_add]
          exact Nat.pow_le_pow_right (by omega) (by omega)
        rw [ll_shr (by omega) (by omega), ll_shl (by omega) (by omega), ll_sub (by omega), ← hmo, show (1 : Int64) = LL 1 from rfl, ll_shl (by omega) (by omega), Nat.one_mul, lg_pos (by omega) (by omega), ll_add, show (LL 1 : Int64) = (1 : Int64) from rfl, ll_and1]
        rw [show (1 : Int64) = LL 1 from rfl, show (0 : Int64) = LL 0 from rfl, ll_add, lg_pos (by omega) (by omega)]
        by_cases g1 : 2 ^ m < A % 2 ^ (m + 1)
        · rw [if_pos g1, if_pos g1, if_pos (by decide)]
          exact T _ (by omega) (by omega)
        · rw [if_neg g1, if_neg g1]
          by_cases g2 : A % 2 ^ (m + 1) = 2 ^ m
          · rw [if_pos g2, if_pos g2, if_neg (by decide), if_pos rfl]
            by_cases g3 : A / 2 ^ (m + 1) % 2 = 1
            · rw [if_pos g3, g3, if_pos (by decide)]
              exact T _ (by omega) (by omega)
            · rw [if_neg g3, show A / 2 ^ (m + 1) % 2 = 0 by omega, if_neg (by decide)]
              exact T _ (by omega) (by omega)
          · rw [if_neg g2, if_neg g2, if_neg (by decide), if_neg (by decide)]
            exact T _ (by omega) (by omega)
      · rw [if_neg (fun z => k ((ii_le (b := 62) i3 rfl).mp z))]
        obtain ⟨m, hm⟩ : ∃ m : Nat, q - e = (m : Nat) := ⟨(q - e).toNat, by omega⟩
        rw [hm, Int.toNat_natCast, near_far (A := A) (k := m) (Nat.lt_of_lt_of_le (show 2 * A < 2 ^ 63 by omega) (Nat.pow_le_pow_right (by omega) (by omega)))]
        exact T 0 (by omega) (by omega)
    · rw [if_neg (fun z => g ((ii_lt (a := 0) rfl i3).mp z)), if_neg g]
      obtain ⟨m, hm⟩ : ∃ m : Nat, e - q = (m : Nat) := ⟨(e - q).toNat, by omega⟩
      have i5 : -(X - E) = NN m := ii_eq (by rw [ii_neg i3 (by omega), ← hm]; omega)
      rw [i5, hm, Int.toNat_natCast]
      have hc1 : A * 2 ^ m < 2 ^ 24 := by
        refine Nat.lt_of_lt_of_le (Nat.mul_lt_mul_of_pos_right hL.2 (Nat.two_pow_pos m)) ?_
        rw [← Nat.pow_add]
        exact Nat.pow_le_pow_right (by omega) (by omega)
      have hA' : m < 64 := by omega
      rw [ll_shl (by omega) hA']
      exact T _ (by omega) (by omega)
