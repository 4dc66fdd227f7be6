/-! numbers of 32 bits by naturals; loops by an invariant -/
def NN (n : Nat) : Int32 := Int32.ofNat n
theorem n_lit (n : Nat) : (no_index (OfNat.ofNat n) : Int32) = NN (OfNat.ofNat n) := rfl
theorem n_tn {a : Nat} (h : a < 2147483648) : (NN a).toNatClampNeg = a := Int32.toNatClampNeg_ofNat_of_lt h
theorem n_ti {a : Nat} (h : a < 2147483648) : (NN a).toInt = (a : Int) := Int32.toInt_ofNat_of_lt h
theorem n_add (a b : Nat) : NN a + NN b = NN (a + b) := (Int32.ofNat_add a b).symm
theorem n_sub (a b : Nat) (h : b ≤ a) : NN a - NN b = NN (a - b) := (Int32.ofNat_sub a b h).symm
theorem n_mul (a b : Nat) : NN a * NN b = NN (a * b) := (Int32.ofNat_mul a b).symm
theorem n_lt {a b : Nat} (ha : a < 2147483648) (hb : b < 2147483648) : (NN a < NN b) = (a < b) := propext (Int32.ofNat_lt_iff_lt ha hb)
theorem n_le {a b : Nat} (ha : a < 2147483648) (hb : b < 2147483648) : (NN a ≤ NN b) = (a ≤ b) := propext (Int32.ofNat_le_iff_le ha hb)
theorem n_inj {a b : Nat} (ha : a < 2147483648) (hb : b < 2147483648) (h : NN a = NN b) : a = b := by
  have := congrArg Int32.toNatClampNeg h
  rwa [n_tn ha, n_tn hb] at this
theorem n_eq {a b : Nat} (ha : a < 2147483648) (hb : b < 2147483648) : (NN a = NN b) = (a = b) := propext ⟨n_inj ha hb, fun h => by rw [h]⟩
theorem n_div {a b : Nat} (ha : a < 2147483648) (hb : b < 2147483648) : NN a / NN b = NN (a / b) := (Int32.ofNat_div ha hb).symm
theorem n_negz {a : Nat} (ha : a < 2147483648) : (NN a < 0) = False := by
  have := n_lt ha (b := 0) (by decide)
  rw [show (0 : Int32) = NN 0 from rfl, this]; simp
theorem n_ix {a n : Nat} (ha : a < 2147483648) : (ix (NN a) n) = (a < n) := by
  apply propext
  show ¬ (NN a < 0 ∨ n ≤ (NN a).toNatClampNeg) ↔ a < n
  rw [n_negz ha, n_tn ha, false_or]; omega
theorem n_not (x : Int32) : x ^^^ -NN 1 = ~~~x := by
  apply Int32.toBitVec_inj.mp
  rw [Int32.toBitVec_xor, Int32.toBitVec_not]
  rw [show (-NN 1).toBitVec = BitVec.allOnes 32 from rfl]
  exact BitVec.xor_allOnes
theorem n_of (x : Int32) (h : 0 ≤ x) : x = NN x.toNatClampNeg := (Int32.ofNat_toNatClampNeg x h).symm
theorem bd_some {α β : Type} (x : α) (k : α → Option β) : bd (some x) k = k x := rfl
theorem bd2_some {α β γ : Type} (x : α) (y : β) (k : α → β → Option γ) : bd2 (some (x, y)) k = k x y := rfl
theorem bd3_some {α β γ δ : Type} (x : α) (y : β) (z : γ) (k : α → β → γ → Option δ) : bd3 (some (x, y, z)) k = k x y z := rfl
theorem upd_at {f : Nat → Int32} {k j : Nat} {x : Int32} (h : j = k) : upd f k x j = x := if_pos h
theorem upd_ne {f : Nat → Int32} {k j : Nat} {x : Int32} (h : j ≠ k) : upd f k x j = f j := if_neg h
theorem cpy_in {f g : Nat → Int32} {n j : Nat} (h : j < n) : va_cpy f g 0 0 n j = f j := by
  show (if 0 ≤ j ∧ j < 0 + n then f (0 + (j - 0)) else g j) = f j
  rw [if_pos ⟨Nat.zero_le _, by omega⟩]; congr 1; omega
theorem cpy_out {f g : Nat → Int32} {n j : Nat} (h : n ≤ j) : va_cpy f g 0 0 n j = g j := by
  show (if 0 ≤ j ∧ j < 0 + n then f (0 + (j - 0)) else g j) = g j
  rw [if_neg (by omega)]
/-- a loop that counts up to b, by what holds ahead of each pass -/
theorem loop_up {σ β : Type} (L : Nat → Int32 → σ → Option β) (k : σ → Option β) (Inv : Nat → σ → Prop) (b : Nat)
    (hs : ∀ n x s, x < b → Inv x s → ∃ s', L (n + 1) (NN x) s = L n (NN (x + 1)) s' ∧ Inv (x + 1) s') (he : ∀ n s, Inv b s → L (n + 1) (NN b) s = k s) :
    ∀ d x n s, x + d = b → d < n → Inv x s → ∃ s', L n (NN x) s = k s' ∧ Inv b s' := by
  intro d
  induction d with
  | zero =>
    intro x n s hx hn hI
    obtain ⟨m, rfl⟩ : ∃ m, n = m + 1 := ⟨n - 1, by omega⟩
    have hxb : x = b := by omega
    subst hxb
    exact ⟨s, he m s hI, hI⟩
  | succ d ih =>
    intro x n s hx hn hI
    obtain ⟨m, rfl⟩ : ∃ m, n = m + 1 := ⟨n - 1, by omega⟩
    obtain ⟨s1, e1, h1⟩ := hs m x s (by omega) hI
    obtain ⟨s2, e2, h2⟩ := ih (x + 1) m s1 (by omega) (by omega) h1
    exact ⟨s2, e1.trans e2, h2⟩
/-- a loop that may end early: by what holds ahead of each pass, and what it answers -/
theorem loop_ex {σ β : Type} (L : Nat → Int32 → σ → Option β) (Inv : Nat → σ → Prop) (Q : Option β → Prop) (b : Nat)
    (hs : ∀ n x s, x < b → Inv x s → Q (L (n + 1) (NN x) s) ∨ ∃ s', L (n + 1) (NN x) s = L n (NN (x + 1)) s' ∧ Inv (x + 1) s') (he : ∀ n s, Inv b s → Q (L (n + 1) (NN b) s)) :
    ∀ d x n s, x + d = b → d < n → Inv x s → Q (L n (NN x) s) := by
  intro d
  induction d with
  | zero =>
    intro x n s hx hn hI
    obtain ⟨m, rfl⟩ : ∃ m, n = m + 1 := ⟨n - 1, by omega⟩
    have hxb : x = b := by omega
    subst hxb
    exact he m s hI
  | succ d ih =>
    intro x n s hx hn hI
    obtain ⟨m, rfl⟩ : ∃ m, n = m + 1 := ⟨n - 1, by omega⟩
    rcases hs m x s (by omega) hI with h | ⟨s1, e1, h1⟩
    · exact h
    · rw [e1]; exact ih (x + 1) m s1 (by omega) (by omega) h1
theorem lf_big {d : Nat} (h : d < 100000) : d < LF := h
