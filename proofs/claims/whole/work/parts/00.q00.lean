/-! numbers of 32 bits by naturals; loops by an invariant -/
def NN (n : Nat) : Int32 := Int32.ofNat n
theorem n_lit (n : Nat) : (no_index (OfNat.ofNat n) : Int32) = NN (OfNat.ofNat n) := rfl
theorem n_tn {a : Nat} (h : a < 2147483648) : (NN a).toNatClampNeg = a := Int32.toNatClampNeg_ofNat_of_lt h
theorem n_ti {a : Nat} (h : a < 2147483648) : (NN a).toInt = (a : Int) := Int32.toInt_ofNat_of_lt h
theorem n_add (a b : Nat) : NN a + NN b = NN (a + b) := (Int32.ofNat_add a b).symm
theorem n_sub (a b : Nat) (h : b ≤ a) : NN a - NN b = NN (a - b) := (Int32.ofNat_sub a b h).symm
theorem n_mul (a b : Nat) : NN a * NN b = NN (a * b) := (Int32.ofNat_mul a b).symm
theorem n_lt {a b : Nat} (ha : a < 2147483648) (hb : b < 2147483648) : (NN a < NN b) = (a < b) := propext (Int32.ofNat_lt_iff_lt ha hb)
theorem n_le {a b : Nat} (ha : a < 2147483648) (hb : b < 2147483648) : (NN a ≤ NN b) = (a ≤ b) := propext (Int32.ofNat_le_iff_le ha hb)
theorem n_inj {a b : Nat} (ha : a < 2147483648) (hb : b < 2147483648) (h : NN a = NN b) : a = b := by
  have := congrArg Int32.toNatClampNeg h
  rwa [n_tn ha, n_tn hb] at this
theorem n_eq {a b : Nat} (ha : a < 2147483648) (hb : b < 2147483648) : (NN a = NN b) = (a = b) := propext ⟨n_inj ha hb, fun h => by rw [h]⟩
theorem n_div {a b : Nat} (ha : a < 2147483648) (hb : b < 2147483648) : NN a / NN b = NN (a / b) := (Int32.ofNat_div ha hb).symm
theorem n_negz {a : Nat} (ha : a < 2147483648) : (NN a < 0) = False := by
  have := n_lt ha (b := 0) (by decide)
  rw [show (0 : Int32) = NN 0 from rfl, this]; simp
theorem n_ix {a n : Nat} (ha : a < 2147483648) : (ix (NN a) n) = (a < n) := by
  apply propext
  show ¬ (NN a < 0 ∨ n ≤ (NN a).toNatClampNeg) ↔ a < n
  rw [n_negz ha, n_tn ha, false_or]; omega
theorem n_ixT {a n : Nat} (h : a < n ∧ n < 2147483648) : (ix (NN a) n) = True := by rw [n_ix (by omega)]; exact eq_true h.1
theorem n_ixF {a n : Nat} (h : n ≤ a ∧ a < 2147483648) : (ix (NN a) n) = False := by rw [n_ix (by omega)]; exact eq_false (by omega)
theorem n_ltT {a b : Nat} (h : a < b ∧ b < 2147483648) : (NN a < NN b) = True := by rw [n_lt (by omega) h.2]; exact eq_true h.1
theorem n_ltF {a b : Nat} (h : b ≤ a ∧ a < 2147483648) : (NN a < NN b) = False := by rw [n_lt h.2 (by omega)]; exact eq_false (by omega)
theorem n_leT {a b : Nat} (h : a ≤ b ∧ b < 2147483648) : (NN a ≤ NN b) = True := by rw [n_le (by omega) h.2]; exact eq_true h.1
theorem n_leF {a b : Nat} (h : b < a ∧ a < 2147483648) : (NN a ≤ NN b) = False := by rw [n_le h.2 (by omega)]; exact eq_false (by omega)
theorem n_eqT {a b : Nat} (h : a = b) : (NN a = NN b) = True := eq_true (by rw [h])
theorem n_eqF {a b : Nat} (h : a ≠ b ∧ a < 2147483648 ∧ b < 2147483648) : (NN a = NN b) = False := by rw [n_eq h.2.1 h.2.2]; exact eq_false h.1
theorem s_pos {α : Type} {c : Prop} [Decidable c] {a b r : α} (hc : c) (h : a = r) : (if c then a else b) = r := (if_pos hc).trans h
theorem s_neg {α : Type} {c : Prop} [Decidable c] {a b r : α} (hc : ¬ c) (h : b = r) : (if c then a else b) = r := (if_neg hc).trans h
theorem s_nm {α β : Type} {x : α} {k : α → β} {r : β} (h : ∀ y, y = x → k y = r) : nm x k = r := h x rfl
theorem s_nmj1 {α β γ : Type} {x : α → Option β} {k : (α → Option β) → Option γ} {r : Option γ} (h : k x = r) : nm x k = r := h
theorem s_nmj2 {α α' β γ : Type} {x : α → α' → Option β} {k : (α → α' → Option β) → Option γ} {r : Option γ} (h : k x = r) : nm x k = r := h
theorem s_bd {α β : Type} {o : Option α} {y : α} {k : α → Option β} {r : Option β} (ho : o = some y) (h : k y = r) : bd o k = r := by rw [ho]; exact h
theorem s_bd2 {α β γ : Type} {o : Option (α × β)} {y : α} {z : β} {k : α → β → Option γ} {r : Option γ} (ho : o = some (y, z)) (h : k y z = r) : bd2 o k = r := by rw [ho]; exact h
theorem s_bd3 {α β γ δ : Type} {o : Option (α × β × γ)} {x : α} {y : β} {z : γ} {k : α → β → γ → Option δ} {r : Option δ} (ho : o = some (x, y, z)) (h : k x y z = r) : bd3 o k = r := by rw [ho]; exact h
theorem n_not (x : Int32) : x ^^^ -NN 1 = ~~~x := by
  apply Int32.toBitVec_inj.mp
  rw [Int32.toBitVec_xor, Int32.toBitVec_not]
  rw [show (-NN 1).toBitVec = BitVec.allOnes 32 from rfl]
  exact BitVec.xor_allOnes
theorem n_md (a k : Nat) : a - a / k * k = a % k := by
  have := Nat.div_add_mod a k
  rw [Nat.mul_comm] at this; omega
theorem n_of (x : Int32) (h : 0 ≤ x) : x = NN x.toNatClampNeg := (Int32.ofNat_toNatClampNeg x h).symm
theorem bd_some {α β : Type} (x : α) (k : α → Option β) : bd (some x) k = k x := rfl
theorem bd2_some {α β γ : Type} (x : α) (y : β) (k : α → β → Option γ) : bd2 (some (x, y)) k = k x y := rfl
theorem bd3_some {α β γ δ : Type} (x : α) (y : β) (z : γ) (k : α → β → γ → Option δ) : bd3 (some (x, y, z)) k = k x y z := rfl
theorem upd_at {f : Nat → Int32} {k j : Nat} {x : Int32} (h : j = k) : upd f k x j = x := if_pos h
theorem upd_ne {f : Nat → Int32} {k j : Nat} {x : Int32} (h : j ≠ k) : upd f k x j = f j := if_neg h
theorem cpy_in {f g : Nat → Int32} {n j : Nat} (h : j < n) : va_cpy f g 0 0 n j = f j := by
  show (if 0 ≤ j ∧ j < 0 + n then f (0 + (j - 0)) else g j) = f j
  rw [if_pos ⟨Nat.zero_le _, by omega⟩]; congr 1; omega
theorem cpy_out {f g : Nat → Int32} {n j : Nat} (h : n ≤ j) : va_cpy f g 0 0 n j = g j := by
  show (if 0 ≤ j ∧ j < 0 + n then f (0 + (j - 0)) else g j) = g j
  rw [if_neg (by omega)]
theorem lf_big {d : Nat} (h : d < 100000) : d < LF := h
/-- a loop that counts up to b, by what holds ahead of each pass -/
theorem loop_up {σ β : Type} (L : Nat → Int32 → σ → Option β) (k : σ → Option β) (Inv : Nat → σ → Prop) (b : Nat)
    (hs : ∀ n x s, x < b → Inv x s → ∃ s', L (n + 1) (NN x) s = L n (NN (x + 1)) s' ∧ Inv (x + 1) s') (he : ∀ n s, Inv b s → L (n + 1) (NN b) s = k s) :
    ∀ d x n s, x + d = b → d < n → Inv x s → ∃ s', L n (NN x) s = k s' ∧ Inv b s' := by
  intro d
  induction d with
  | zero =>
    intro x n s hx hn hI
    obtain ⟨m, rfl⟩ : ∃ m, n = m + 1 := ⟨n - 1, by omega⟩
    have hxb : x = b := by omega
    subst hxb
    exact ⟨s, he m s hI, hI⟩
  | succ d ih =>
    intro x n s hx hn hI
    obtain ⟨m, rfl⟩ : ∃ m, n = m + 1 := ⟨n - 1, by omega⟩
    obtain ⟨s1, e1, h1⟩ := hs m x s (by omega) hI
    obtain ⟨s2, e2, h2⟩ := ih (x + 1) m s1 (by omega) (by omega) h1
    exact ⟨s2, e1.trans e2, h2⟩
theorem loop_from {σ β : Type} (L : Nat → Int32 → σ → Option β) (k : σ → Option β) (Inv : Nat → σ → Prop) (a b : Nat)
    (hs : ∀ n x s, a ≤ x → x < b → Inv x s → ∃ s', L (n + 1) (NN x) s = L n (NN (x + 1)) s' ∧ Inv (x + 1) s') (he : ∀ n s, Inv b s → L (n + 1) (NN b) s = k s)
    {n : Nat} {s : σ} (hab : a ≤ b) (hn : b - a < n) (hI : Inv a s) : ∃ s', L n (NN a) s = k s' ∧ Inv b s' := by
  obtain ⟨s', e, h⟩ := loop_up L k (fun x s => a ≤ x ∧ Inv x s) b (fun n x s hx hI => by
    obtain ⟨s', e, h⟩ := hs n x s hI.1 hx hI.2
    exact ⟨s', e, by omega, h⟩) (fun n s h => he n s h.2) (b - a) a n s (by omega) hn ⟨Nat.le_refl a, hI⟩
  exact ⟨s', e, h.2⟩
theorem n_dec {a : Nat} (h : 1 ≤ a) : NN a + -NN 1 = NN (a - 1) := by
  rw [← Int32.sub_eq_add_neg, n_sub a 1 h]
/-- a loop that counts down to lo -/
theorem loop_down {σ β : Type} (L : Nat → Int32 → σ → Option β) (k : σ → Option β) (Inv : Nat → σ → Prop) (lo hi : Nat)
    (hs : ∀ n x s, lo ≤ x → x ≤ hi → Inv x s → ∃ s', L (n + 1) (NN x) s = L n (NN (x - 1)) s' ∧ Inv (x - 1) s') (he : ∀ n s, Inv (lo - 1) s → L (n + 1) (NN (lo - 1)) s = k s) (hlo : 1 ≤ lo) :
    ∀ d x n s, x = lo - 1 + d → x ≤ hi → d < n → Inv x s → ∃ s', L n (NN x) s = k s' ∧ Inv (lo - 1) s' := by
  intro d
  induction d with
  | zero =>
    intro x n s hx hh hn hI
    obtain ⟨m, rfl⟩ : ∃ m, n = m + 1 := ⟨n - 1, by omega⟩
    have hxb : x = lo - 1 := by omega
    subst hxb
    exact ⟨s, he m s hI, hI⟩
  | succ d ih =>
    intro x n s hx hh hn hI
    obtain ⟨m, rfl⟩ : ∃ m, n = m + 1 := ⟨n - 1, by omega⟩
    obtain ⟨s1, e1, h1⟩ := hs m x s (by omega) hh hI
    obtain ⟨s2, e2, h2⟩ := ih (x - 1) m s1 (by omega) (by omega) (by omega) h1
    exact ⟨s2, e1.trans e2, h2⟩
/-- a stretch of a row laid elsewhere in it -/
def cpR (f : Nat → Int32) (dst src n : Nat) : Nat → Int32 := fun j => if dst ≤ j ∧ j < dst + n then f (src + (j - dst)) else f j
theorem loop_cp {β : Type} (L : Nat → Int32 → (Nat → Int32) → Option β) (k : (Nat → Int32) → Option β) (dst src N : Nat) (f : Nat → Int32) (hN : N < 1000) (hd : src + N ≤ dst ∨ dst + N ≤ src)
    (hs : ∀ n x f, x < N → L (n + 1) (NN x) f = L n (NN (x + 1)) (upd f (dst + x) (f (src + x)))) (he : ∀ n f, L (n + 1) (NN N) f = k f) : L LF (NN 0) f = k (cpR f dst src N) := by
  obtain ⟨s', e, h⟩ := loop_from L k (fun x g => ∀ j, g j = if dst ≤ j ∧ j < dst + x then f (src + (j - dst)) else f j) 0 N (n := LF) (s := f)
    (by
      intro n x g _ hx hI
      refine ⟨_, hs n x g hx, ?_⟩
      intro j
      by_cases hj : j = dst + x
      · subst hj
        rw [upd_at rfl, hI, if_neg (by omega), if_pos (by omega)]; congr 1; omega
      · rw [upd_ne hj, hI j]
        have : (dst ≤ j ∧ j < dst + (x + 1)) ↔ (dst ≤ j ∧ j < dst + x) := by omega
        simp only [this])
    (fun n s _ => he n s) (by omega) (lf_big (by omega)) (fun j => by rw [if_neg (by omega)])
  have hs : s' = cpR f dst src N := funext fun j => (h j).trans rfl
  rw [← hs]; exact e
/-- a loop that may end early: by what holds ahead of each pass, and what it answers -/
theorem loop_ex {σ β : Type} (L : Nat → Int32 → σ → Option β) (Inv : Nat → σ → Prop) (Q : Option β → Prop) (b : Nat)
    (hs : ∀ n x s, x < b → Inv x s → Q (L (n + 1) (NN x) s) ∨ ∃ s', L (n + 1) (NN x) s = L n (NN (x + 1)) s' ∧ Inv (x + 1) s') (he : ∀ n s, Inv b s → Q (L (n + 1) (NN b) s)) :
    ∀ d x n s, x + d = b → d < n → Inv x s → Q (L n (NN x) s) := by
  intro d
  induction d with
  | zero =>
    intro x n s hx hn hI
    obtain ⟨m, rfl⟩ : ∃ m, n = m + 1 := ⟨n - 1, by omega⟩
    have hxb : x = b := by omega
    subst hxb
    exact he m s hI
  | succ d ih =>
    intro x n s hx hn hI
    obtain ⟨m, rfl⟩ : ∃ m, n = m + 1 := ⟨n - 1, by omega⟩
    rcases hs m x s (by omega) hI with h | ⟨s1, e1, h1⟩
    · exact h
    · rw [e1]; exact ih (x + 1) m s1 (by omega) (by omega) h1
theorem n_and (a b : Nat) : NN a &&& NN b = NN (a &&& b) := by
  apply Int32.toBitVec_inj.mp
  rw [Int32.toBitVec_and]
  show BitVec.ofNat 32 a &&& BitVec.ofNat 32 b = BitVec.ofNat 32 (a &&& b)
  apply BitVec.eq_of_toNat_eq
  rw [BitVec.toNat_and, BitVec.toNat_ofNat, BitVec.toNat_ofNat, BitVec.toNat_ofNat, Nat.and_mod_two_pow]
theorem n_and1 (a : Nat) : NN a &&& NN 1 = NN (a % 2) := by rw [n_and]; exact congrArg NN (Nat.and_two_pow_sub_one_eq_mod a 1)
theorem n_and3 (a : Nat) : NN a &&& NN 3 = NN (a % 4) := by rw [n_and]; exact congrArg NN (Nat.and_two_pow_sub_one_eq_mod a 2)
theorem n_and7 (a : Nat) : NN a &&& NN 7 = NN (a % 8) := by rw [n_and]; exact congrArg NN (Nat.and_two_pow_sub_one_eq_mod a 3)
theorem n_and15 (a : Nat) : NN a &&& NN 15 = NN (a % 16) := by rw [n_and]; exact congrArg NN (Nat.and_two_pow_sub_one_eq_mod a 4)
theorem n_and31 (a : Nat) : NN a &&& NN 31 = NN (a % 32) := by rw [n_and]; exact congrArg NN (Nat.and_two_pow_sub_one_eq_mod a 5)
theorem n_and63 (a : Nat) : NN a &&& NN 63 = NN (a % 64) := by rw [n_and]; exact congrArg NN (Nat.and_two_pow_sub_one_eq_mod a 6)
