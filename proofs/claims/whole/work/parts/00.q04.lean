/-! floats: quotients -/
/-- the units in which a quotient of two floats is rounded -/
theorem quot_units {c d g : Nat} (hc1 : 2 ^ 23 ≤ c) (hc2 : c < 2 ^ 24) (hd1 : 2 ^ 23 ≤ d) (hd2 : d < 2 ^ 24) (hg : (g = 23 ∧ d ≤ c) ∨ (g = 24 ∧ c < d)) : 2 ^ 23 * d ≤ c * 2 ^ g ∧ c * 2 ^ g < 2 ^ 24 * d := by
  rcases hg with ⟨rfl, h⟩ | ⟨rfl, h⟩ <;> constructor <;> omega
theorem quot_quant (f : Jvm.FP.Core.Fmt) {c d g : Nat} (hc1 : 2 ^ 23 ≤ c) (hc2 : c < 2 ^ 24) (hd1 : 2 ^ 23 ≤ d) (hd2 : d < 2 ^ 24) (hg : (g = 23 ∧ d ≤ c) ∨ (g = 24 ∧ c < d)) (e : Int) :
    Jvm.FP.Core.quantum f c d e = max f.qmin (23 - (g : Int) + e - ((f.p : Int) - 1)) := by
  have l1 : c.log2 = 23 := Lg_eq ⟨hc1, hc2⟩
  have l2 : d.log2 = 23 := Lg_eq ⟨hd1, hd2⟩
  unfold Jvm.FP.Core.quantum Jvm.FP.Core.leading
  rw [l1, l2]
  simp only [Int.sub_self, Int.neg_zero, Int.toNat_zero, Nat.pow_zero, Nat.mul_one]
  rcases hg with ⟨rfl, h⟩ | ⟨rfl, h⟩
  · rw [if_pos h]; rfl
  · rw [if_neg (by omega)]; rfl
theorem quot32 (s : Bool) {c d g : Nat} (hc1 : 2 ^ 23 ≤ c) (hc2 : c < 2 ^ 24) (hd1 : 2 ^ 23 ≤ d) (hd2 : d < 2 ^ 24) (hg : (g = 23 ∧ d ≤ c) ∨ (g = 24 ∧ c < d)) {e : Int} (h1 : -100 ≤ e) :
    Jvm.FP.Core.roundRatio Jvm.FP.Core.b32 s c d e = Jvm.FP.Core.settle Jvm.FP.Core.b32 s (Jvm.FP.Core.nearest (c * 2 ^ g) d) (e - g) := by
  have hQ : Jvm.FP.Core.quantum Jvm.FP.Core.b32 c d e = e - g := by
    rw [quot_quant _ hc1 hc2 hd1 hd2 hg, show Jvm.FP.Core.b32.qmin = -149 by decide, show ((Jvm.FP.Core.b32.p : Nat) : Int) = 24 from rfl]; omega
  unfold Jvm.FP.Core.roundRatio Jvm.FP.Core.roundAt
  rw [if_neg (by omega), hQ]
  unfold Jvm.FP.Core.unitsNum Jvm.FP.Core.unitsDen
  rw [show (e - (e - (g : Int))).toNat = g by omega, show (e - (g : Int) - e).toNat = 0 by omega, Nat.pow_zero, Nat.mul_one]
theorem whole32 (s : Bool) {X m L : Nat} (hL : Lg X L) {e Q : Int} (hQ : Q = e + (L : Int) - 23) (hm : Q - e = (m : Int)) (h1 : -149 ≤ Q) :
    Jvm.FP.Core.round Jvm.FP.Core.b32 (.fin s X e) = Jvm.FP.Core.settle Jvm.FP.Core.b32 s (Jvm.FP.Core.nearest X (2 ^ m)) Q := by
  have hX : 0 < X := Nat.lt_of_lt_of_le (Nat.two_pow_pos L) hL.1
  have hQ' : Jvm.FP.Core.quantum Jvm.FP.Core.b32 X 1 e = Q := by rw [quant32 hL]; omega
  show Jvm.FP.Core.roundRatio Jvm.FP.Core.b32 s X 1 e = _
  unfold Jvm.FP.Core.roundRatio Jvm.FP.Core.roundAt
  rw [if_neg (by omega), hQ']
  unfold Jvm.FP.Core.unitsNum Jvm.FP.Core.unitsDen
  rw [show (e - Q).toNat = 0 by omega, show (Q - e).toNat = m by omega, Nat.pow_zero, Nat.mul_one, Nat.one_mul]
theorem or_one (Z : Nat) : Z ||| 1 = 2 * (Z / 2) + 1 := by
  have h := Nat.two_pow_add_eq_or_of_lt (i := 1) (b := 1) (by omega) (Z / 2)
  have h0 := Nat.two_pow_add_eq_or_of_lt (i := 1) (b := 0) (by omega) (Z / 2)
  rw [Nat.pow_one] at h h0
  rcases Nat.mod_two_eq_zero_or_one Z with g | g
  · have e : Z = 2 * (Z / 2) := by omega
    rw [h, ← e]
  · have e : Z = 2 * (Z / 2) + 1 := by omega
    have e' : Z = 2 * (Z / 2) ||| 1 := by rw [← h]; exact e
    rw [h, ← e']
    rw [e', Nat.or_assoc, Nat.or_self, ← e']
/-- a quotient by its whole part and a mark for the rest rounds as the quotient does -/
theorem near_mark {N d m : Nat} (hd : 0 < d) (hm : 2 ≤ m) : Jvm.FP.Core.nearest (N / d ||| (if N % d = 0 then 0 else 1)) (2 ^ m) = Jvm.FP.Core.nearest N (d * 2 ^ m) := by
  obtain ⟨U, hU⟩ : ∃ U, 2 ^ m = 4 * U := ⟨2 ^ (m - 2), by
    have : 2 ^ (2 + (m - 2)) = 2 ^ 2 * 2 ^ (m - 2) := Nat.pow_add _ _ _
    rw [show 2 + (m - 2) = m by omega] at this
    omega⟩
  have hUp : 0 < U := by have := Nat.two_pow_pos m; omega
  have hN := Nat.div_add_mod N d
  rw [Nat.mul_comm] at hN
  by_cases g : N % d = 0
  · rw [if_pos g, Nat.or_zero]
    have : N = N / d * d := by omega
    rw [Nat.mul_comm d]
    conv => rhs; rw [this]
    rw [Jvm.FP.Core.nearest_scale _ _ _ hd]
  · rw [if_neg g, hU]
    have hr := Nat.mod_lt N hd
    obtain ⟨ρ, hρ⟩ : ∃ ρ, ρ = N % d := ⟨_, rfl⟩
    rw [← hρ] at hr g hN
    obtain ⟨Z, hZ⟩ : ∃ Z, Z = N / d := ⟨_, rfl⟩
    rw [← hZ] at hN ⊢
    rw [or_one]
    have hZU := Nat.div_add_mod Z (4 * U)
    have hwU := Nat.mod_lt Z (show 0 < 4 * U by omega)
    generalize Z / (4 * U) = z at hZU
    generalize Z % (4 * U) = w at hZU hwU
    have ez : 4 * U * z = 4 * (z * U) := by rw [Nat.mul_assoc, Nat.mul_comm U]
    have eN : N = d * (4 * (z * U)) + d * w + ρ := by rw [← hN, ← hZU, ez, Nat.mul_comm (4 * (z * U) + w), Nat.mul_add]
    have ed : z * (d * (4 * U)) = d * (4 * (z * U)) := by rw [Nat.mul_left_comm, Nat.mul_left_comm z 4]
    have ed4 : d * (4 * U) = 4 * (d * U) := Nat.mul_left_comm _ _ _
    by_cases k : w < 2 * U
    · have hw : d * (w + 1) ≤ d * (2 * U) := Nat.mul_le_mul_left _ k
      have e2 : d * (2 * U) = 2 * (d * U) := Nat.mul_left_comm _ _ _
      rw [Nat.mul_add, Nat.mul_one] at hw
      rw [near_mid (c := z) (by omega) (by rw [Nat.mul_left_comm z 4]; omega) (by rw [Nat.mul_left_comm z 4]; omega)]
      rw [near_mid (c := z) (Nat.mul_pos hd (by omega)) (by rw [ed, eN]; omega) (by rw [ed, eN]; omega)]
    · have hw : d * (2 * U) ≤ d * w := Nat.mul_le_mul_left _ (by omega)
      have hw2 : d * (w + 1) ≤ d * (4 * U) := Nat.mul_le_mul_left _ hwU
      rw [Nat.mul_add, Nat.mul_one] at hw2
      have e2 : d * (2 * U) = 2 * (d * U) := Nat.mul_left_comm _ _ _
      rw [near_mid (c := z + 1) (by omega) (by rw [Nat.add_mul, Nat.mul_left_comm z 4]; omega) (by rw [Nat.add_mul, Nat.mul_left_comm z 4]; omega)]
      rw [near_mid (c := z + 1) (Nat.mul_pos hd (by omega)) (by rw [Nat.add_mul, ed, eN]; omega) (by rw [Nat.add_mul, ed, eN]; omega)]
theorem quot_class (s : Bool) {c d : Nat} (hc1 : 2 ^ 23 ≤ c) (hc2 : c < 2 ^ 24) (hd1 : 2 ^ 23 ≤ d) (hd2 : d < 2 ^ 24) {e : Int} (h1 : -100 ≤ e) :
    Jvm.FP.Core.round Jvm.FP.Core.b32 (.fin s (c * 2 ^ 30 / d ||| (if c * 2 ^ 30 % d = 0 then 0 else 1)) (e - 30)) = Jvm.FP.Core.roundRatio Jvm.FP.Core.b32 s c d e := by
  obtain ⟨g, hg⟩ : ∃ g, (g = 23 ∧ d ≤ c) ∨ (g = 24 ∧ c < d) := by
    by_cases h : d ≤ c
    · exact ⟨23, Or.inl ⟨rfl, h⟩⟩
    · exact ⟨24, Or.inr ⟨rfl, by omega⟩⟩
  rw [quot32 s hc1 hc2 hd1 hd2 hg h1]
  have hd0 : 0 < d := by omega
  obtain ⟨X, hX⟩ : ∃ X, X = (c * 2 ^ 30 / d ||| (if c * 2 ^ 30 % d = 0 then 0 else 1)) := ⟨_, rfl⟩
  have hL : Lg X (53 - g) := by
    have b1 : 2 ^ (53 - g) ≤ c * 2 ^ 30 / d := by
      refine (Nat.le_div_iff_mul_le hd0).mpr ?_
      rcases hg with ⟨rfl, h⟩ | ⟨rfl, h⟩ <;> simp <;> omega
    have b2 : c * 2 ^ 30 / d < 2 ^ (53 - g + 1) := by
      refine (Nat.div_lt_iff_lt_mul hd0).mpr ?_
      rcases hg with ⟨rfl, h⟩ | ⟨rfl, h⟩ <;> simp <;> omega
    generalize c * 2 ^ 30 / d = Z at b1 b2 hX
    have hX' : X = Z ∨ X = 2 * (Z / 2) + 1 := by
      by_cases k : c * 2 ^ 30 % d = 0
      · rw [if_pos k, Nat.or_zero] at hX; exact Or.inl hX
      · rw [if_neg k, or_one] at hX; exact Or.inr hX
    have e2 : 2 ^ (53 - g + 1) = 2 * 2 ^ (53 - g) := by rw [Nat.pow_succ, Nat.mul_comm]
    unfold Lg
    omega
  have hm := near_mark (N := c * 2 ^ 30) (m := 30 - g) hd0 (by omega)
  rw [← hX] at hm ⊢
  rw [whole32 s hL (Q := e - g) (m := 30 - g) (by omega) (by omega) (by omega), hm]
  have : c * 2 ^ 30 = c * 2 ^ g * 2 ^ (30 - g) := by rw [Nat.mul_assoc, ← Nat.pow_add, show g + (30 - g) = 30 by omega]
  rw [this, Jvm.FP.Core.nearest_scale _ _ _ (Nat.two_pow_pos _)]
theorem near_two {M d : Nat} (hd : 0 < d) (hd2 : d < 2 ^ 24) : Jvm.FP.Core.nearest (Jvm.FP.Core.nearest (M * 2 ^ 29) d) (2 ^ 29) = Jvm.FP.Core.nearest M d := by
  have hM := Nat.div_add_mod M d
  have hr := Nat.mod_lt M hd
  obtain ⟨z, hz⟩ : ∃ z, z = M / d := ⟨_, rfl⟩
  obtain ⟨ρ, hρ⟩ : ∃ ρ, ρ = M % d := ⟨_, rfl⟩
  have e1 : Jvm.FP.Core.nearest M d = if 2 * ρ < d then z else if d < 2 * ρ then z + 1 else z + z % 2 := by
    unfold Jvm.FP.Core.nearest
    rw [← hz, ← hρ]
  rw [← hz, ← hρ, Nat.mul_comm] at hM
  rw [← hρ] at hr
  rw [e1]
  clear e1 hz hρ
  have eN : M * 2 ^ 29 = 2 ^ 29 * (z * d) + 2 ^ 29 * ρ := by rw [← hM, Nat.mul_comm, Nat.mul_add]
  have ex : ∀ a : Nat, (2 ^ 29 * z + a) * d = 2 ^ 29 * (z * d) + a * d := fun a => by rw [Nat.add_mul, Nat.mul_assoc]
  by_cases g : 2 * ρ < d
  · rw [if_pos g]
    have b1 : 2 ^ 29 * z ≤ Jvm.FP.Core.nearest (M * 2 ^ 29) d := by
      refine Jvm.FP.Core.nearest_ge hd ?_
      rw [eN, Nat.mul_assoc]; omega
    have b2 : Jvm.FP.Core.nearest (M * 2 ^ 29) d ≤ 2 ^ 29 * z + (2 ^ 28 - 1) := by
      refine Jvm.FP.Core.nearest_le hd ?_
      rw [eN, ex]; omega
    generalize Jvm.FP.Core.nearest (M * 2 ^ 29) d = n at b1 b2
    exact near_mid (by omega) (by omega) (by omega)
  · rw [if_neg g]
    by_cases k : d < 2 * ρ
    · rw [if_pos k]
      have b1 : 2 ^ 29 * z + (2 ^ 28 + 1) ≤ Jvm.FP.Core.nearest (M * 2 ^ 29) d := by
        refine Jvm.FP.Core.nearest_ge hd ?_
        rw [eN, ex]; omega
      have b2 : Jvm.FP.Core.nearest (M * 2 ^ 29) d ≤ 2 ^ 29 * z + 2 ^ 29 := by
        refine Jvm.FP.Core.nearest_le hd ?_
        rw [eN, ex]; omega
      generalize Jvm.FP.Core.nearest (M * 2 ^ 29) d = n at b1 b2
      exact near_mid (by omega) (by omega) (by omega)
    · rw [if_neg k]
      have e2 : M * 2 ^ 29 = (2 ^ 29 * z + 2 ^ 28) * d := by rw [eN, ex]; omega
      rw [e2, Jvm.FP.Core.nearest_exact _ hd]
      unfold Jvm.FP.Core.nearest
      rw [if_neg (by omega), if_neg (by omega), show (2 ^ 29 * z + 2 ^ 28) / 2 ^ 29 = z by omega]
theorem quot_model (s : Bool) {c d : Nat} (hc1 : 2 ^ 23 ≤ c) (hc2 : c < 2 ^ 24) (hd1 : 2 ^ 23 ≤ d) (hd2 : d < 2 ^ 24) {e : Int} (h1 : -100 ≤ e) (h2 : e ≤ 100) :
    Jvm.FP.Core.round Jvm.FP.Core.b32 (Jvm.FP.Core.roundRatio Jvm.FP.Core.b64 s c d e) = Jvm.FP.Core.roundRatio Jvm.FP.Core.b32 s c d e := by
  obtain ⟨g, hg⟩ : ∃ g, (g = 23 ∧ d ≤ c) ∨ (g = 24 ∧ c < d) := by
    by_cases h : d ≤ c
    · exact ⟨23, Or.inl ⟨rfl, h⟩⟩
    · exact ⟨24, Or.inr ⟨rfl, by omega⟩⟩
  rw [quot32 s hc1 hc2 hd1 hd2 hg h1]
  have hd0 : 0 < d := by omega
  have hQ : Jvm.FP.Core.quantum Jvm.FP.Core.b64 c d e = e - g - 29 := by
    rw [quot_quant _ hc1 hc2 hd1 hd2 hg, show Jvm.FP.Core.b64.qmin = -1074 by decide, show ((Jvm.FP.Core.b64.p : Nat) : Int) = 53 from rfl]; omega
  have hu : 2 ^ 23 * d ≤ c * 2 ^ g ∧ c * 2 ^ g + 2 ^ 23 ≤ 2 ^ 24 * d := by
    rcases hg with ⟨rfl, h⟩ | ⟨rfl, h⟩ <;> constructor <;> omega
  have ee : c * 2 ^ (g + 29) = c * 2 ^ g * 2 ^ 29 := by rw [Nat.pow_add, Nat.mul_assoc]
  have b1 : 2 ^ 52 ≤ Jvm.FP.Core.nearest (c * 2 ^ g * 2 ^ 29) d := by
    refine Jvm.FP.Core.nearest_ge hd0 ?_
    omega
  have b2 : Jvm.FP.Core.nearest (c * 2 ^ g * 2 ^ 29) d ≤ 2 ^ 53 - 1 := by
    refine Jvm.FP.Core.nearest_le hd0 ?_
    omega
  have e1 : Jvm.FP.Core.roundRatio Jvm.FP.Core.b64 s c d e = .fin s (Jvm.FP.Core.nearest (c * 2 ^ g * 2 ^ 29) d) (e - g - 29) := by
    unfold Jvm.FP.Core.roundRatio Jvm.FP.Core.roundAt
    rw [if_neg (by omega), hQ]
    unfold Jvm.FP.Core.unitsNum Jvm.FP.Core.unitsDen
    rw [show (e - (e - (g : Int) - 29)).toNat = g + 29 by omega, show (e - (g : Int) - 29 - e).toNat = 0 by omega, Nat.pow_zero, Nat.mul_one, ee]
    unfold Jvm.FP.Core.settle Jvm.FP.Core.bound
    rw [show 2 ^ Jvm.FP.Core.b64.p = 2 ^ 53 from rfl, show Jvm.FP.Core.b64.qmax = 971 by decide, if_pos (by omega), if_pos (by omega)]
  rw [e1, whole32 s (L := 52) ⟨b1, by omega⟩ (Q := e - g) (m := 29) (by omega) (by omega) (by omega), near_two hd0 hd2]
/-- a whole number as a float -/
theorem i2f_dec {n : Nat} (h0 : 0 < n) (h : n < 2147483648) : ∃ c q, Jvm.FP.Core.round Jvm.FP.Core.b32 (.fin false n 0) = .fin false c q ∧ 2 ^ 23 ≤ c ∧ c < 2 ^ 24 ∧ -23 ≤ q ∧ q ≤ 8 := by
  have hL := Lg_of h0
  have hL2 : n.log2 < 31 := Lg_lt hL h
  generalize n.log2 = L at hL hL2
  have hQ := quant32 hL 0
  have h2 := Jvm.FP.Core.nearest_units_le (f := Jvm.FP.Core.b32) h0 (B := 1) (by omega) 0
  show ∃ c q, Jvm.FP.Core.roundRatio Jvm.FP.Core.b32 false n 1 0 = _ ∧ _
  unfold Jvm.FP.Core.roundRatio Jvm.FP.Core.roundAt
  rw [if_neg (by omega)]
  have h3 : 2 ^ 23 ≤ Jvm.FP.Core.nearest (Jvm.FP.Core.unitsNum n 0 (Jvm.FP.Core.quantum Jvm.FP.Core.b32 n 1 0)) (Jvm.FP.Core.unitsDen 1 0 (Jvm.FP.Core.quantum Jvm.FP.Core.b32 n 1 0)) := by
    refine Jvm.FP.Core.nearest_ge (Jvm.FP.Core.unitsDen_pos (by omega) _ _) ?_
    rw [hQ]
    unfold Jvm.FP.Core.unitsNum Jvm.FP.Core.unitsDen
    by_cases g : 23 ≤ L
    · rw [show (0 - max (-149) (0 + (L : Int) - 23)).toNat = 0 by omega, show (max (-149) (0 + (L : Int) - 23) - 0).toNat = L - 23 by omega, Nat.one_mul, ← Nat.pow_add, show 23 + (L - 23) = L by omega, Nat.pow_zero, Nat.mul_one]
      exact hL.1
    · rw [show (0 - max (-149) (0 + (L : Int) - 23)).toNat = 23 - L by omega, show (max (-149) (0 + (L : Int) - 23) - 0).toNat = 0 by omega, Nat.one_mul, Nat.pow_zero, Nat.mul_one]
      have : 2 ^ L * 2 ^ (23 - L) ≤ n * 2 ^ (23 - L) := Nat.mul_le_mul_right _ hL.1
      rw [← Nat.pow_add, show L + (23 - L) = 23 by omega] at this
      exact this
  rw [hQ] at h2 h3 ⊢
  generalize Jvm.FP.Core.nearest (Jvm.FP.Core.unitsNum n 0 (max (-149) (0 + (L : Int) - 23))) (Jvm.FP.Core.unitsDen 1 0 (max (-149) (0 + (L : Int) - 23))) = c at h2 h3
  have h2 : c ≤ 2 ^ 24 := h2
  unfold Jvm.FP.Core.settle Jvm.FP.Core.bound
  rw [show 2 ^ Jvm.FP.Core.b32.p = 2 ^ 24 from rfl, show Jvm.FP.Core.b32.qmax = 104 by decide]
  by_cases g : c < 2 ^ 24
  · rw [if_pos g, if_pos (by omega)]
    exact ⟨_, _, rfl, h3, g, by omega, by omega⟩
  · rw [if_neg g, if_pos (by omega)]
    exact ⟨_, _, rfl, by show (2 : Nat) ^ 23 ≤ 2 ^ 23; omega, by show (2 : Nat) ^ 23 < 2 ^ 24; omega, by omega, by omega⟩
theorem ofWhole_i2f (x : Int32) : f_Fl_ofWhole x = some (FP.i2f x).toInt32 ∧ Jvm.FP.Core.val32 (FP.i2f x) = Jvm.FP.Core.round Jvm.FP.Core.b32 (Jvm.FP.Core.ofInt x.toInt) := by
  have hv : Jvm.FP.Core.val32 (FP.i2f x) = Jvm.FP.Core.round Jvm.FP.Core.b32 (Jvm.FP.Core.ofInt x.toInt) := Jvm.FP.Core.val32_i2f x
  refine ⟨?_, hv⟩
  obtain ⟨y, h1, h2⟩ := F_of x
  have hd : Jvm.FP.Core.val64 (FP.i2d x) = Jvm.FP.Core.round Jvm.FP.Core.b64 (Jvm.FP.Core.ofInt x.toInt) := Jvm.FP.Core.val64_i2d x
  have hlt := x.toInt_lt
  have hle := x.le_toInt
  rw [cut_of (by rw [hd]; exact rnd_ne), hd] at h2
  have e : Jvm.FP.Core.round Jvm.FP.Core.b32 (Jvm.FP.Core.round Jvm.FP.Core.b64 (Jvm.FP.Core.ofInt x.toInt)) = Jvm.FP.Core.round Jvm.FP.Core.b32 (Jvm.FP.Core.ofInt x.toInt) := by
    unfold Jvm.FP.Core.ofInt
    rw [round_wide _ (by omega) (by omega) (by omega)]
  rw [e, ← hv] at h2
  rw [h1, ← h2]
  unfold b32of
  rw [Jvm.FP.Core.of32_val32 (by rw [hv]; exact rnd_ne)]
theorem fin_notLost {x : Int32} {s c q} (h : Jvm.FP.Core.val32 x.toUInt32 = .fin s c q) : ¬ x &&& 2139095040 = 2139095040 := by
  intro k
  have h1 := (Jvm.FP.Core.fin_bits32 x.toUInt32).mp ⟨s, c, q, h⟩
  have h2 := (bN_lost x).mp k
  rw [bN_u] at h1
  omega
theorem ll_or {a b : Nat} (ha : a < 18446744073709551616) (hb : b < 18446744073709551616) (hc : a ||| b < 18446744073709551616) : LL a ||| LL b = LL (a ||| b) := by
  refine Int64.toBitVec_inj.mp (BitVec.eq_of_toNat_eq ?_)
  show ((LL a).toBitVec ||| (LL b).toBitVec).toNat = (BitVec.ofNat 64 _).toNat
  rw [BitVec.toNat_or, BitVec.toNat_ofNat]
  show (BitVec.ofNat 64 a).toNat ||| (BitVec.ofNat 64 b).toNat = _
  rw [BitVec.toNat_ofNat, BitVec.toNat_ofNat]
  rw [Nat.mod_eq_of_lt ha, Nat.mod_eq_of_lt hb, Nat.mod_eq_of_lt hc]
theorem ll_div {a b : Nat} (ha : a < 9223372036854775808) (hb : b < 9223372036854775808) : LL a / LL b = LL (a / b) := by
  have hd : a / b ≤ a := Nat.div_le_self _ _
  refine Int64.toInt_inj.mp ?_
  rw [Int64.toInt_div, ll_int ha, ll_int hb, ll_int (by omega)]
  show (Int.tdiv (a : Int) (b : Int)).bmod _ = _
  rw [← Int.ofNat_tdiv, Int.bmod_def]
  generalize a / b = z at hd
  omega
/-- the quotient of two whole numbers as floats -/
theorem F_quot {n t : Int32} (hn : 0 ≤ n.toInt) (ht : 0 < t.toInt) : ∃ r2 r4 y, f_Fl_ofWhole n = some r2 ∧ f_Fl_ofWhole t = some r4 ∧ f_Fl_quotient r2 r4 = some y
    ∧ n64 (FP.f2d (FP.i2f n)) ∧ n64 (FP.f2d (FP.i2f t)) ∧ n64 (FP.ddiv (FP.f2d (FP.i2f n)) (FP.f2d (FP.i2f t))) ∧ f_M_cut (FP.ddiv (FP.f2d (FP.i2f n)) (FP.f2d (FP.i2f t))) = some y := by
  have hn2 := n.toInt_lt
  have ht2 := t.toInt_lt
  obtain ⟨o1, v1⟩ := ofWhole_i2f n
  obtain ⟨o2, v2⟩ := ofWhole_i2f t
  have u1 : (FP.i2f n).toInt32.toUInt32 = FP.i2f n := rfl
  have u2 : (FP.i2f t).toInt32.toUInt32 = FP.i2f t := rfl
  obtain ⟨d, r, v2', hd1, hd2, hr1, hr2⟩ := i2f_dec (n := t.toInt.toNat) (by omega) (by omega)
  have w2 : Jvm.FP.Core.val32 (FP.i2f t).toInt32.toUInt32 = .fin false d r := by
    rw [u2, v2, ← v2']
    unfold Jvm.FP.Core.ofInt
    rw [decide_eq_false (by omega), show t.toInt.natAbs = t.toInt.toNat by omega]
  have w1 : ∃ c q, Jvm.FP.Core.val32 (FP.i2f n).toInt32.toUInt32 = .fin false c q ∧ c < 2 ^ 24 ∧ ((c = 0 ∧ q = -149) ∨ (2 ^ 23 ≤ c ∧ -23 ≤ q ∧ q ≤ 8)) := by
    by_cases g : n.toInt = 0
    · refine ⟨0, -149, ?_, by omega, Or.inl ⟨rfl, rfl⟩⟩
      rw [u1, v1, g]
      show Jvm.FP.Core.roundRatio Jvm.FP.Core.b32 false 0 1 0 = _
      unfold Jvm.FP.Core.roundRatio
      rw [if_pos rfl]; rfl
    · obtain ⟨c, q, v1', hc1, hc2, hq1, hq2⟩ := i2f_dec (n := n.toInt.toNat) (by omega) (by omega)
      refine ⟨c, q, ?_, hc2, Or.inr ⟨hc1, hq1, hq2⟩⟩
      rw [u1, v1, ← v1']
      unfold Jvm.FP.Core.ofInt
      rw [decide_eq_false (by omega), show n.toInt.natAbs = n.toInt.toNat by omega]
  obtain ⟨c, q, w1, hc2, hcq⟩ := w1
  have nl1 := fin_notLost w1
  have nl2 := fin_notLost w2
  obtain ⟨c', q', Dx, Ex, vx, cx, qx1, qx2, nx, dx, dxi, ex, exi⟩ := fl_dec _ nl1
  obtain ⟨d', r', Dy, Ey, vy, cy, qy1, qy2, ny, dy, dyi, ey, eyi⟩ := fl_dec _ nl2
  have j1 := w1.symm.trans vx
  have j2 := w2.symm.trans vy
  injection j1 with s1 c1 q1
  injection j2 with s2 d2 r2
  subst c1 q1 d2 r2
  obtain ⟨wx, k, ux, _⟩ := worth_of nl1 w1 cx qx1 qx2
  obtain ⟨wy, j, uy, _⟩ := worth_of nl2 w2 cy qy1 qy2
  rw [u1] at ux
  rw [u2] at uy
  have hdv : Jvm.FP.Core.val64 (FP.ddiv (FP.f2d (FP.i2f n)) (FP.f2d (FP.i2f t))) = Jvm.FP.Core.roundRatio Jvm.FP.Core.b64 false c d (q - r) := by
    show Jvm.FP.Core.val64 (Jvm.FP.Core.ddiv _ _) = _
    rw [Jvm.FP.Core.val64_ddiv, ux, uy]
    have hd0 : d * 2 ^ j ≠ 0 := by have : 0 < d * 2 ^ j := Nat.mul_pos (by omega) (Nat.two_pow_pos j); omega
    show (if d * 2 ^ j = 0 then _ else Jvm.FP.Core.roundRatio Jvm.FP.Core.b64 (false != false) (c * 2 ^ k) (d * 2 ^ j) (q - k - (r - j))) = _
    rw [if_neg hd0]
    refine Jvm.FP.Core.roundRatio_congr (by omega) (by omega) ?_
    by_cases g : (k : Int) ≤ j
    · obtain ⟨m, hm⟩ : ∃ m : Nat, j = k + m := ⟨j - k, by omega⟩
      rw [show (q - (k : Int) - (r - (j : Int)) - (q - r)).toNat = m by omega, show (q - r - (q - (k : Int) - (r - (j : Int)))).toNat = 0 by omega, hm, Nat.pow_add]
      simp only [Nat.pow_zero, Nat.mul_one]
      ac_rfl
    · obtain ⟨m, hm⟩ : ∃ m : Nat, k = j + m := ⟨k - j, by omega⟩
      rw [show (q - (k : Int) - (r - (j : Int)) - (q - r)).toNat = 0 by omega, show (q - r - (q - (k : Int) - (r - (j : Int)))).toNat = m by omega, hm, Nat.pow_add]
      simp only [Nat.pow_zero, Nat.mul_one]
      ac_rfl
  have hdn : Jvm.FP.Core.val64 (FP.ddiv (FP.f2d (FP.i2f n)) (FP.f2d (FP.i2f t))) ≠ .nan := by
    rw [hdv]
    unfold Jvm.FP.Core.roundRatio
    by_cases g : c = 0
    · rw [if_pos g]; exact fin_ne
    · rw [if_neg g]
      unfold Jvm.FP.Core.roundAt Jvm.FP.Core.settle Jvm.FP.Core.bound
      intro z
      repeat' split at z
      all_goals exact nomatch z
  refine ⟨_, _, b32of (Jvm.FP.Core.round Jvm.FP.Core.b32 (Jvm.FP.Core.roundRatio Jvm.FP.Core.b64 false c d (q - r))), o1, o2, ?_, n64_of (by rw [ux]; exact fin_ne), n64_of (by rw [uy]; exact fin_ne), n64_of hdn, ?_⟩
  · unfold f_Fl_quotient
    rw [ll_of dyi] at dy
    rw [ll_of dxi] at dx
    have hdn : ¬ LL d = 0 := fun z => by
      have := congrArg Int64.toInt z
      rw [ll_int (by omega), show (0 : Int64).toInt = 0 from rfl] at this
      omega
    with_reducible refine s_bd dy (s_pos ?_ (s_bd dx ?_))
    · rw [show (0 : Int64) = LL 0 from rfl, lg_pos (by omega) (by omega), if_pos (by omega)]; decide
    with_reducible refine s_nm ?_; intro x6 h6
    rw [show (30 : Int32) = NN 30 from rfl, ll_shl (by omega) (by omega)] at h6
    subst h6
    with_reducible refine s_pos hdn ?_
    have hle : c * 2 ^ 30 / d ≤ c * 2 ^ 30 := Nat.div_le_self _ _
    have hor : (c * 2 ^ 30 / d ||| (if c * 2 ^ 30 % d = 0 then 0 else 1)) ≤ c * 2 ^ 30 / d + 1 := by
      generalize c * 2 ^ 30 / d = Z
      by_cases g : c * 2 ^ 30 % d = 0
      · rw [if_pos g, Nat.or_zero]; omega
      · rw [if_neg g, or_one]; omega
    have fin : ∀ m : Nat, m = (if c * 2 ^ 30 % d = 0 then 0 else 1) → (if ¬ LL d = 0 then (bd (f_Fl_exponentOf (FP.i2f n).toInt32) fun (r11 : Int32) => (bd (f_Fl_exponentOf (FP.i2f t).toInt32) fun (r13 : Int32) => (bd (f_Fl_nearest (0 : Int32) ((LL (c * 2 ^ 30) / LL d) ||| LL m) ((r11 - r13) - (30 : Int32))) fun (r15 : Int32) => (some r15)))) else none) = some (b32of (Jvm.FP.Core.round Jvm.FP.Core.b32 (Jvm.FP.Core.roundRatio Jvm.FP.Core.b64 false c d (q - r)))) := by
      intro m hm
      refine s_pos hdn (s_bd ex (s_bd ey ?_))
      rw [← hm] at hor
      have hm1 : m ≤ 1 := by rw [hm]; split <;> omega
      rw [ll_div (by omega) (by omega), ll_or (by omega) (by omega) (by omega), show (0 : Int32) = sgw false from rfl, near_spec false (by omega) (ii_sub (ii_sub exi eyi (by omega) (by omega)) (show (30 : Int32).toInt = 30 from rfl) (by omega) (by omega)) (by omega) (by omega)]
      refine congrArg (fun z => some (b32of z)) ?_
      rcases hcq with ⟨h1, h2⟩ | ⟨h1, h2, h3⟩
      · have hm0 : m = 0 := by rw [hm, h1]; simp
        rw [hm0, h1, Nat.zero_mul, Nat.zero_div]
        show Jvm.FP.Core.roundRatio _ _ (0 ||| 0) _ _ = _
        have z : ∀ (f : Jvm.FP.Core.Fmt) (b : Nat) (e : Int), Jvm.FP.Core.roundRatio f false 0 b e = .fin false 0 f.qmin := fun f b e => by
          unfold Jvm.FP.Core.roundRatio; exact if_pos rfl
        rw [Nat.or_zero, z, z]
        show _ = Jvm.FP.Core.roundRatio _ _ 0 _ _
        rw [z]
      · rw [hm, quot_class false h1 hc2 hd1 hd2 (by omega), quot_model false h1 hc2 hd1 hd2 (by omega) (by omega)]
    with_reducible refine s_nmj1 ?_
    have hmod : LL (c * 2 ^ 30) - LL (c * 2 ^ 30) / LL d * LL d = LL (c * 2 ^ 30 % d) := by
      have hmm : c * 2 ^ 30 / d * d ≤ c * 2 ^ 30 := Nat.div_mul_le_self _ _
      rw [ll_div (by omega) (by omega), ll_mul, ll_sub hmm]
      have := Nat.div_add_mod (c * 2 ^ 30) d
      rw [Nat.mul_comm] at this
      rw [show c * 2 ^ 30 - c * 2 ^ 30 / d * d = c * 2 ^ 30 % d by omega]
    have hml : c * 2 ^ 30 % d ≤ c * 2 ^ 30 := Nat.mod_le _ _
    rw [hmod]
    by_cases g : c * 2 ^ 30 % d = 0
    · with_reducible refine s_pos ?_ ?_
      · rw [g]; decide
      · exact fin 0 (by rw [if_pos g])
    · with_reducible refine s_neg ?_ ?_
      · rw [show (0 : Int64) = LL 0 from rfl, lg_pos (by omega) (by omega), if_pos (by omega)]; decide
      · exact fin 1 (by rw [if_neg g])
  · rw [cut_of hdn, hdv]
