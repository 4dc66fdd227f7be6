/-! a STEP of one THREAD: what it does to the relation -/
theorem and_split (r m : Int32) : r &&& ~~~m ||| r &&& m = r := by
  apply Int32.toBitVec_inj.mp
  apply BitVec.eq_of_getLsbD_eq; intro i hi
  simp only [Int32.toBitVec_or, Int32.toBitVec_and, Int32.toBitVec_not, BitVec.getLsbD_or, BitVec.getLsbD_and, BitVec.getLsbD_not, hi]
  cases r.toBitVec.getLsbD i <;> cases m.toBitVec.getLsbD i <;> rfl
theorem or_and_m (r o m : Int32) : (r &&& ~~~m ||| o) &&& m = o &&& m := by
  apply Int32.toBitVec_inj.mp
  apply BitVec.eq_of_getLsbD_eq; intro i hi
  simp only [Int32.toBitVec_or, Int32.toBitVec_and, Int32.toBitVec_not, BitVec.getLsbD_or, BitVec.getLsbD_and, BitVec.getLsbD_not, hi]
  cases r.toBitVec.getLsbD i <;> cases m.toBitVec.getLsbD i <;> cases o.toBitVec.getLsbD i <;> rfl
theorem bit1 {r m o : Int32} (h : r &&& m = o) (h2 : o &&& m = o) : (r &&& ~~~m) ||| (o &&& m) = r := by
  rw [h2, ← h]; exact and_split r m
theorem bit2 {r m o : Int32} (h : o &&& m = o) : ((r &&& ~~~m) ||| o) &&& m = o := by
  rw [or_and_m, h]
theorem bit3 {r m o : Int32} (h : r &&& m = o) (h2 : o &&& m = o) : (r &&& ~~~m) ||| o = r := by
  have := bit1 h h2
  rwa [h2] at this
def stpR (row : Nat → Int32) (w pl n : Nat) : Nat → Int32 := stk (upd (upd row w (NN pl)) (2 + w) (NN n))
theorem stk_out {s : Nat → Int32} {j : Nat} (h : j < 4 ∨ 20 ≤ j) : stk s j = s j := by
  simp only [stk]; rw [if_neg (by omega)]
theorem stk_in {s : Nat → Int32} {j : Nat} (h : 4 ≤ j) (h2 : j < 20) : stk s j = (s j &&& ~~~(s (j + 50))) ||| (s (j + 66) &&& s (j + 50)) := by
  simp only [stk]; rw [if_pos ⟨h, h2⟩]
theorem stpR_hi {row : Nat → Int32} {w pl n j : Nat} (hw : w < 2) (h : 20 ≤ j) : stpR row w pl n j = row j := by
  simp only [stpR]; rw [stk_out (Or.inr h), upd_ne (by omega), upd_ne (by omega)]
theorem RSt_congr {w : Nat} {st : T_St} {s s' : Nat → Int32} {pl n : Nat} (hw : w < 2) (h : RSt w st s pl n) (h1 : s' w = s w) (h2 : s' (2 + w) = s (2 + w)) (h3 : ∀ k, k < 8 → s' (4 + 8 * w + k) = s (4 + 8 * w + k))
    (h4 : ∀ k, k < 4 → s' (20 + 4 * w + k) = s (20 + 4 * w + k)) (h5 : ∀ j, 54 ≤ j → j < 86 → s' j = s j) : RSt w st s' pl n := by
  obtain ⟨⟨a1, a2, a3⟩, ⟨b1, b2, b3⟩, c1, c2, c3, c4, c5⟩ := h
  refine ⟨⟨a1, h1.trans a2, a3⟩, ⟨b1, h2.trans b2, b3⟩, fun k hk => (h3 k hk).trans (c1 k hk), fun k hk => (h4 k hk).trans (c2 k hk), fun k hk => (h5 _ (by omega) (by omega)).trans (c3 k hk), fun k hk => (h5 _ (by omega) (by omega)).trans (c4 k hk), c5⟩
theorem RSt_stk {w : Nat} {st : T_St} {s : Nat → Int32} {pl n : Nat} (hw : w < 2) (h : RSt w st s pl n) : RSt w st (stk s) pl n := by
  refine RSt_congr hw h (stk_out (by omega)) (stk_out (by omega)) ?_ (fun k hk => stk_out (by omega)) (fun j hj _ => stk_out (by omega))
  intro k hk
  obtain ⟨-, -, c1, -, c3, c4, c5⟩ := h
  rw [stk_in (by omega) (by omega), show 4 + 8 * w + k + 50 = 54 + 8 * w + k by omega, show 4 + 8 * w + k + 66 = 70 + 8 * w + k by omega, c1 k hk, c3 k hk, c4 k hk]
  exact bit1 (c5 k hk).2 (c5 k hk).1
theorem RSt_other {w w2 : Nat} {st : T_St} {s row : Nat → Int32} {pl n pl2 n2 : Nat} (hw : w < 2) (hw2 : w2 < 2) (hne : w ≠ w2) (h : RSt w2 st s pl2 n2) (h1 : row w2 = s w2) (h2 : row (2 + w2) = s (2 + w2))
    (h3 : ∀ k, k < 8 → row (4 + 8 * w2 + k) = s (4 + 8 * w2 + k)) (h4 : ∀ k, k < 4 → row (20 + 4 * w2 + k) = s (20 + 4 * w2 + k)) (h5 : ∀ j, 54 ≤ j → j < 86 → row j = s j) : RSt w2 st (stpR row w pl n) pl2 n2 := by
  refine RSt_stk hw2 (RSt_congr hw2 h ?_ ?_ ?_ ?_ ?_)
  · rw [upd_ne (by omega), upd_ne (by omega), h1]
  · rw [upd_ne (by omega), upd_ne (by omega), h2]
  · intro k hk; rw [upd_ne (by omega), upd_ne (by omega), h3 k hk]
  · intro k hk; rw [upd_ne (by omega), upd_ne (by omega), h4 k hk]
  · intro j hj hj2; rw [upd_ne (by omega), upd_ne (by omega), h5 j hj hj2]
theorem RSt_step {w : Nat} {st : T_St} {s row : Nat → Int32} {pl n pl' : Nat} (hw : w < 2) (h : RSt w st s pl n) (hn : n < 40) (hp : pl' < 64) {reg flt R : Nat → Int32}
    (h3 : ∀ k, k < 8 → row (4 + 8 * w + k) = R k) (h4 : ∀ k, k < 4 → row (20 + 4 * w + k) = flt k) (h5 : ∀ j, 54 ≤ j → j < 86 → row j = s j)
    (hr : ∀ k, k < 8 → reg k = (R k &&& ~~~(St_stuckMask st k)) ||| St_stuckOnes st k) : RSt w (reg, flt, St_stuckMask st, St_stuckOnes st, NN pl', NN (n + 1)) (stpR row w pl' (n + 1)) pl' (n + 1) := by
  obtain ⟨⟨a1, a2, a3⟩, ⟨b1, b2, b3⟩, c1, c2, c3, c4, c5⟩ := h
  refine ⟨⟨rfl, ?_, hp⟩, ⟨rfl, ?_, by omega⟩, ?_, ?_, ?_, ?_, ?_⟩
  · simp only [stpR]; rw [stk_out (by omega), upd_ne (by omega), upd_at rfl]
  · simp only [stpR]; rw [stk_out (by omega), upd_at rfl]
  · intro k hk
    simp only [stpR, St_registers_mk]
    rw [stk_in (by omega) (by omega), show 4 + 8 * w + k + 50 = 54 + 8 * w + k by omega, show 4 + 8 * w + k + 66 = 70 + 8 * w + k by omega,
      upd_ne (by omega), upd_ne (by omega), upd_ne (by omega), upd_ne (by omega), upd_ne (by omega), upd_ne (by omega), h3 k hk, h5 _ (by omega) (by omega), h5 _ (by omega) (by omega), c3 k hk, c4 k hk, (c5 k hk).1, hr k hk]
  · intro k hk
    simp only [St_floats_mk]; rw [stpR_hi hw (by omega), h4 k hk]
  · intro k hk
    simp only [St_stuckMask_mk]; rw [stpR_hi hw (by omega), h5 _ (by omega) (by omega), c3 k hk]
  · intro k hk
    simp only [St_stuckOnes_mk]; rw [stpR_hi hw (by omega), h5 _ (by omega) (by omega), c4 k hk]
  · intro k hk
    simp only [St_stuckOnes_mk, St_stuckMask_mk, St_registers_mk]
    exact ⟨(c5 k hk).1, by rw [hr k hk]; exact bit2 (c5 k hk).1⟩
