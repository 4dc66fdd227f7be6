/-! how many bits are ones -/
def popN : Nat → Nat → Nat
  | 0, _ => 0
  | k + 1, n => n % 2 + popN k (n / 2)
theorem popN_zero : ∀ k, popN k 0 = 0
  | 0 => rfl
  | k + 1 => by simp only [popN]; rw [popN_zero k]
theorem popN_le : ∀ k n, popN k n ≤ k
  | 0, _ => Nat.le_refl _
  | k + 1, n => by simp only [popN]; have := popN_le k (n / 2); omega
theorem popN_byte {k b r : Nat} (hb : b < 256) : popN (k + 8) (b + 256 * r) = popN 8 b + popN k r := by
  simp only [popN]
  rw [show (b + 256 * r) / 2 / 2 / 2 / 2 / 2 / 2 / 2 / 2 = r by omega]
  omega
theorem and_byte (a m : Nat) : a &&& m = (a / 256 &&& m / 256) * 256 + (a % 256 &&& m % 256) := by
  have h1 : (a &&& m) / 2 ^ 8 = a / 2 ^ 8 &&& m / 2 ^ 8 := Nat.and_div_two_pow
  have h2 : (a &&& m) % 2 ^ 8 = a % 2 ^ 8 &&& m % 2 ^ 8 := Nat.and_mod_two_pow
  have h3 := Nat.div_add_mod (a &&& m) 256
  rw [show (256 : Nat) = 2 ^ 8 from rfl] at *
  rw [← h1, ← h2]; omega
theorem and_low {a : Nat} (c m : Nat) (hm : m < 128) : (a + 128 * c) &&& m = a % 128 &&& m := by
  have h : ∀ x : Nat, x &&& m = x % 2 ^ 7 &&& m := fun x => by
    have h2 : (x &&& m) % 2 ^ 7 = x % 2 ^ 7 &&& m % 2 ^ 7 := Nat.and_mod_two_pow
    rw [Nat.mod_eq_of_lt (show m < 2 ^ 7 from hm)] at h2
    rw [← h2]
    exact (Nat.mod_eq_of_lt (Nat.lt_of_le_of_lt Nat.and_le_right hm)).symm
  rw [h (a + 128 * c)]
  congr 1
  omega
/-- a byte's steps -/
def by1 (b : Nat) : Nat := b - (b / 2 % 128 &&& 85)
def by2 (b : Nat) : Nat := (by1 b &&& 51) + (by1 b / 4 % 64 &&& 51)
def by3 (b : Nat) : Nat := (by2 b + by2 b / 16) &&& 15
set_option maxRecDepth 100000 in
theorem by_ok : ∀ b, b < 256 → by3 b = popN 8 b ∧ by1 b ≤ 170 ∧ by2 b ≤ 68 ∧ (b / 2 % 128 &&& 85) ≤ b ∧ by2 b % 16 ≤ 4 ∧ by2 b / 16 ≤ 4 := by decide +kernel
theorem n_u (x : Int32) : ∃ a, a < 4294967296 ∧ x = NN a := ⟨x.toBitVec.toNat, x.toBitVec.isLt, by
  apply Int32.toBitVec_inj.mp
  show x.toBitVec = BitVec.ofNat 32 x.toBitVec.toNat
  rw [BitVec.ofNat_toNat, BitVec.setWidth_eq]⟩
theorem n_shr {a : Nat} (ha : a < 4294967296) {k : Nat} (hk : k < 32) : (((NN a).toUInt32 >>> ((NN k).toUInt32 &&& Int32.toUInt32 (NN 31))).toInt32) = NN (a / 2 ^ k) := by
  apply Int32.toBitVec_inj.mp
  apply BitVec.eq_of_toNat_eq
  show ((NN a).toUInt32 >>> ((NN k).toUInt32 &&& Int32.toUInt32 (NN 31))).toNat = (BitVec.ofNat 32 (a / 2 ^ k)).toNat
  have e1 : (NN a).toUInt32.toNat = a := by show (BitVec.ofNat 32 a).toNat = a; rw [BitVec.toNat_ofNat]; exact Nat.mod_eq_of_lt ha
  have e2 : ((NN k).toUInt32 &&& Int32.toUInt32 (NN 31)).toNat = k := by
    rw [UInt32.toNat_and]
    have e3 : (NN k).toUInt32.toNat = k := by show (BitVec.ofNat 32 k).toNat = k; rw [BitVec.toNat_ofNat]; exact Nat.mod_eq_of_lt (by omega)
    rw [e3]
    show k &&& 31 = k
    have := Nat.and_two_pow_sub_one_eq_mod k 5
    rw [show (31 : Nat) = 2 ^ 5 - 1 from rfl, this]; exact Nat.mod_eq_of_lt hk
  rw [UInt32.toNat_shiftRight, e1, e2, BitVec.toNat_ofNat, Nat.mod_eq_of_lt hk, Nat.shiftRight_eq_div_pow]
  have : a / 2 ^ k ≤ a := Nat.div_le_self _ _
  exact (Nat.mod_eq_of_lt (by omega)).symm
theorem and_lowk (k : Nat) {a : Nat} (c m : Nat) (hm : m < 2 ^ k) : (a + 2 ^ k * c) &&& m = a % 2 ^ k &&& m := by
  have h : ∀ x : Nat, x &&& m = x % 2 ^ k &&& m := fun x => by
    have h2 : (x &&& m) % 2 ^ k = x % 2 ^ k &&& m % 2 ^ k := Nat.and_mod_two_pow
    rw [Nat.mod_eq_of_lt hm] at h2
    rw [← h2]
    exact (Nat.mod_eq_of_lt (Nat.lt_of_le_of_lt Nat.and_le_right hm)).symm
  rw [h (a + 2 ^ k * c), Nat.add_mul_mod_self_left]
theorem sw1 {b r m : Nat} (hb : b < 256) : (b + 256 * r) / 2 &&& (85 + 256 * m) = (b / 2 % 128 &&& 85) + 256 * (r / 2 &&& m) := by
  rw [and_byte, show (b + 256 * r) / 2 / 256 = r / 2 by omega, show (85 + 256 * m) / 256 = m by omega, show (85 + 256 * m) % 256 = 85 by omega, show (b + 256 * r) / 2 % 256 = b / 2 + 2 ^ 7 * (r % 2) by omega, and_lowk 7 _ _ (by decide)]
  rw [show (2 : Nat) ^ 7 = 128 from rfl]; omega
theorem sw2 {b r m : Nat} (hb : b < 256) : (b + 256 * r) &&& (51 + 256 * m) = (b &&& 51) + 256 * (r &&& m) := by
  rw [and_byte, show (b + 256 * r) / 256 = r by omega, show (51 + 256 * m) / 256 = m by omega, show (51 + 256 * m) % 256 = 51 by omega, show (b + 256 * r) % 256 = b by omega]; omega
theorem sw3 {b r m : Nat} (hb : b < 256) : (b + 256 * r) / 4 &&& (51 + 256 * m) = (b / 4 % 64 &&& 51) + 256 * (r / 4 &&& m) := by
  rw [and_byte, show (b + 256 * r) / 4 / 256 = r / 4 by omega, show (51 + 256 * m) / 256 = m by omega, show (51 + 256 * m) % 256 = 51 by omega, show (b + 256 * r) / 4 % 256 = b / 4 + 2 ^ 6 * (r % 4) by omega, and_lowk 6 _ _ (by decide)]
  rw [show (2 : Nat) ^ 6 = 64 from rfl]; omega
theorem sw4 {b r m : Nat} (hb : b % 16 ≤ 4 ∧ b / 16 ≤ 4) (hr : r % 16 ≤ 4) : ((b + 256 * r) + (b + 256 * r) / 16) &&& (15 + 256 * m) = ((b + b / 16) &&& 15) + 256 * ((r + r / 16) &&& m) := by
  rw [and_byte, show ((b + 256 * r) + (b + 256 * r) / 16) / 256 = r + r / 16 by omega, show (15 + 256 * m) / 256 = m by omega, show (15 + 256 * m) % 256 = 15 by omega, show ((b + 256 * r) + (b + 256 * r) / 16) % 256 = (b + b / 16) + 2 ^ 4 * (r % 16) by omega, and_lowk 4 _ _ (by decide)]
  have : (b + b / 16) &&& 15 = (b + b / 16) % 2 ^ 4 &&& 15 := by
    have := and_lowk 4 (a := b + b / 16) 0 15 (by decide)
    rwa [Nat.mul_zero, Nat.add_zero] at this
  rw [this]; omega
def by0 (b0 b1 b2 b3 : Nat) : Nat := b0 + 256 * (b1 + 256 * (b2 + 256 * b3))
set_option maxHeartbeats 2000000 in
theorem C_bitCount (x : Int32) : ∃ a, a < 4294967296 ∧ x = NN a ∧ f_J_bitCount_0f7a4 x = some (NN (popN 32 a)) := by
  obtain ⟨a, ha, rfl⟩ := n_u x
  refine ⟨a, ha, rfl, ?_⟩
  obtain ⟨b0, b1, b2, b3, h0, h1, h2, h3, rfl⟩ : ∃ b0 b1 b2 b3, b0 < 256 ∧ b1 < 256 ∧ b2 < 256 ∧ b3 < 256 ∧ a = by0 b0 b1 b2 b3 := ⟨a % 256, a / 256 % 256, a / 65536 % 256, a / 16777216, by omega, by omega, by omega, by omega, by simp only [by0]; omega⟩
  obtain ⟨p0, q0, r0, s0, u0, v0⟩ := by_ok b0 h0
  obtain ⟨p1, q1, r1, s1, u1, v1⟩ := by_ok b1 h1
  obtain ⟨p2, q2, r2, s2, u2, v2⟩ := by_ok b2 h2
  obtain ⟨p3, q3, r3, s3, u3, v3⟩ := by_ok b3 h3
  have e1 : by0 b0 b1 b2 b3 / 2 &&& 1431655765 = by0 (b0 / 2 % 128 &&& 85) (b1 / 2 % 128 &&& 85) (b2 / 2 % 128 &&& 85) (b3 / 2 % 128 &&& 85) := by
    simp only [by0]
    rw [show (1431655765 : Nat) = 85 + 256 * (85 + 256 * (85 + 256 * 85)) from rfl, sw1 h0, sw1 h1, sw1 h2, Nat.mod_eq_of_lt (show b3 / 2 < 128 by omega)]
  have le1 : by0 (b0 / 2 % 128 &&& 85) (b1 / 2 % 128 &&& 85) (b2 / 2 % 128 &&& 85) (b3 / 2 % 128 &&& 85) ≤ by0 b0 b1 b2 b3 := by simp only [by0]; omega
  have e2 : by0 b0 b1 b2 b3 - by0 (b0 / 2 % 128 &&& 85) (b1 / 2 % 128 &&& 85) (b2 / 2 % 128 &&& 85) (b3 / 2 % 128 &&& 85) = by0 (by1 b0) (by1 b1) (by1 b2) (by1 b3) := by simp only [by0, by1]; omega
  have e3 : by0 (by1 b0) (by1 b1) (by1 b2) (by1 b3) &&& 858993459 = by0 (by1 b0 &&& 51) (by1 b1 &&& 51) (by1 b2 &&& 51) (by1 b3 &&& 51) := by
    simp only [by0]
    rw [show (858993459 : Nat) = 51 + 256 * (51 + 256 * (51 + 256 * 51)) from rfl, sw2 (by omega), sw2 (by omega), sw2 (by omega)]
  have e4 : by0 (by1 b0) (by1 b1) (by1 b2) (by1 b3) / 4 &&& 858993459 = by0 (by1 b0 / 4 % 64 &&& 51) (by1 b1 / 4 % 64 &&& 51) (by1 b2 / 4 % 64 &&& 51) (by1 b3 / 4 % 64 &&& 51) := by
    simp only [by0]
    rw [show (858993459 : Nat) = 51 + 256 * (51 + 256 * (51 + 256 * 51)) from rfl, sw3 (by omega), sw3 (by omega), sw3 (by omega), Nat.mod_eq_of_lt (show by1 b3 / 4 < 64 by omega)]
  have e5 : by0 (by1 b0 &&& 51) (by1 b1 &&& 51) (by1 b2 &&& 51) (by1 b3 &&& 51) + by0 (by1 b0 / 4 % 64 &&& 51) (by1 b1 / 4 % 64 &&& 51) (by1 b2 / 4 % 64 &&& 51) (by1 b3 / 4 % 64 &&& 51) = by0 (by2 b0) (by2 b1) (by2 b2) (by2 b3) := by
    simp only [by0, by2]; omega
  have e6 : (by0 (by2 b0) (by2 b1) (by2 b2) (by2 b3) + by0 (by2 b0) (by2 b1) (by2 b2) (by2 b3) / 16) &&& 252645135 = by0 (by3 b0) (by3 b1) (by3 b2) (by3 b3) := by
    simp only [by0, by3]
    rw [show (252645135 : Nat) = 15 + 256 * (15 + 256 * (15 + 256 * 15)) from rfl, sw4 ⟨u0, v0⟩ (by omega), sw4 ⟨u1, v1⟩ (by omega), sw4 ⟨u2, v2⟩ (by omega)]
  have hpop : popN 32 (by0 b0 b1 b2 b3) = by3 b0 + by3 b1 + by3 b2 + by3 b3 := by
    simp only [by0]
    rw [popN_byte (k := 24) h0, popN_byte (k := 16) h1, popN_byte (k := 8) h2, p0, p1, p2, p3]; omega
  have l0 := popN_le 8 b0
  have l1 := popN_le 8 b1
  have l2 := popN_le 8 b2
  have l3 := popN_le 8 b3
  rw [← p0] at l0
  rw [← p1] at l1
  rw [← p2] at l2
  rw [← p3] at l3
  have k1 := n_shr ha (k := 1) (by decide)
  have k2 := n_shr (a := by0 (by1 b0) (by1 b1) (by1 b2) (by1 b3)) (by simp only [by0]; omega) (k := 2) (by decide)
  have k4 := n_shr (a := by0 (by2 b0) (by2 b1) (by2 b2) (by2 b3)) (by simp only [by0]; omega) (k := 4) (by decide)
  have k8 := n_shr (a := by0 (by3 b0) (by3 b1) (by3 b2) (by3 b3)) (by simp only [by0]; omega) (k := 8) (by decide)
  have k16 := n_shr (a := by0 (by3 b0) (by3 b1) (by3 b2) (by3 b3) + by0 (by3 b0) (by3 b1) (by3 b2) (by3 b3) / 2 ^ 8) (by simp only [by0]; omega) (k := 16) (by decide)
  unfold f_J_bitCount_0f7a4
  with_reducible refine s_nm fun y hy => ?_
  simp only [n_lit] at hy
  rw [k1, n_and, show (2 : Nat) ^ 1 = 2 from rfl, e1, n_sub _ _ le1, e2] at hy
  subst hy
  with_reducible refine s_nm fun y hy => ?_
  simp only [n_lit] at hy
  rw [k2, n_and, n_and, show (2 : Nat) ^ 2 = 4 from rfl, e3, e4, n_add, e5] at hy
  subst hy
  with_reducible refine s_nm fun y hy => ?_
  simp only [n_lit] at hy
  rw [k4, n_add, n_and, show (2 : Nat) ^ 4 = 16 from rfl, e6] at hy
  subst hy
  with_reducible refine s_nm fun y hy => ?_
  simp only [n_lit] at hy
  rw [k8, n_add] at hy
  subst hy
  with_reducible refine s_nm fun y hy => ?_
  simp only [n_lit] at hy
  rw [k16, n_add] at hy
  subst hy
  simp only [n_lit]
  rw [n_and63, hpop]
  have hfin : (by0 (by3 b0) (by3 b1) (by3 b2) (by3 b3) + by0 (by3 b0) (by3 b1) (by3 b2) (by3 b3) / 2 ^ 8 + (by0 (by3 b0) (by3 b1) (by3 b2) (by3 b3) + by0 (by3 b0) (by3 b1) (by3 b2) (by3 b3) / 2 ^ 8) / 2 ^ 16) % 64 = by3 b0 + by3 b1 + by3 b2 + by3 b3 := by
    simp only [by0]
    generalize by3 b0 = w0 at *
    generalize by3 b1 = w1 at *
    generalize by3 b2 = w2 at *
    generalize by3 b3 = w3 at *
    have f1 : (w0 + 256 * (w1 + 256 * (w2 + 256 * w3))) / 2 ^ 8 = w1 + 256 * (w2 + 256 * w3) := by rw [show (2 : Nat) ^ 8 = 256 from rfl]; omega
    rw [f1]
    have f2 : (w0 + 256 * (w1 + 256 * (w2 + 256 * w3)) + (w1 + 256 * (w2 + 256 * w3))) / 2 ^ 16 = w2 + w3 + 256 * w3 := by rw [show (2 : Nat) ^ 16 = 65536 from rfl]; omega
    rw [f2]
    omega
  rw [hfin]
theorem pop_clear : ∀ k n, 0 < n → n < 2 ^ k → popN k n = popN k (n &&& (n - 1)) + 1
  | 0, n, h, h2 => by omega
  | k + 1, n, h, h2 => by
    have hd := Nat.and_div_two_pow (a := n) (b := n - 1) (n := 1)
    have hm := Nat.and_mod_two_pow (a := n) (b := n - 1) (n := 1)
    rw [show (2 : Nat) ^ 1 = 2 from rfl] at hd hm
    simp only [popN]
    rw [hd, hm]
    have h3 : 2 ^ (k + 1) = 2 * 2 ^ k := by rw [Nat.pow_succ, Nat.mul_comm]
    rcases (by omega : n % 2 = 0 ∨ n % 2 = 1) with q | q
    · have ih := pop_clear k (n / 2) (by omega) (by omega)
      rw [q, show (n - 1) % 2 = 1 by omega, show (n - 1) / 2 = n / 2 - 1 by omega]
      show 0 + popN k (n / 2) = 0 + popN k (n / 2 &&& (n / 2 - 1)) + 1
      omega
    · rw [q, show (n - 1) % 2 = 0 by omega, show (n - 1) / 2 = n / 2 by omega, Nat.and_self]
      show 1 + _ = 0 + _ + 1
      omega
