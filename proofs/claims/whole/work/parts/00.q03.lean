/-! floats: the operations -/
theorem tb31 (x : Int32) : (bN x).testBit 31 = decide (x < 0) := by
  have := bN_lt x
  rw [Nat.testBit_eq_decide_div_mod_eq, decide_eq_decide, bN_neg]
  omega
theorem top_sgw (x : Int32) : (x &&& (-2147483648 : Int32)) = sgw (decide (x < 0)) := by
  refine bN_inj ?_
  rw [bN_top]
  have hbl := bN_lt x
  by_cases g : x < 0
  · rw [decide_eq_true g]
    have := (bN_neg x).mp g
    rw [show bN x / 2147483648 = 1 by omega]; rfl
  · rw [decide_eq_false g]
    have := Nat.lt_of_not_le (fun z => g ((bN_neg x).mpr z))
    rw [show bN x / 2147483648 = 0 by omega]; rfl
theorem neg_xor (x y : Int32) : decide (x ^^^ y < 0) = (decide (x < 0) != decide (y < 0)) := by
  rw [← tb31, ← tb31, ← tb31, bN_xor, Nat.testBit_xor]
theorem neg_and (x y : Int32) : decide (x &&& y < 0) = (decide (x < 0) && decide (y < 0)) := by
  rw [← tb31, ← tb31, ← tb31, bN_and, Nat.testBit_and]
theorem isLost_same (x : Int32) : f_M_isLost x = f_Fl_isLost x := rfl
theorem isLost_yes {x : Int32} (h : x &&& 2139095040 = 2139095040) : f_Fl_isLost x = some 1 := by unfold f_Fl_isLost; exact if_pos h
theorem isLost_no {x : Int32} (h : ¬ x &&& 2139095040 = 2139095040) : f_Fl_isLost x = some 0 := by unfold f_Fl_isLost; exact if_neg h
theorem ll_mul {a b : Nat} : LL a * LL b = LL (a * b) := (Int64.ofNat_mul a b).symm
theorem F_prod (x y : Int32) : ∃ z, f_Fl_product x y = some z ∧ f_M_multiplied x y = some z := by
  unfold f_Fl_product f_M_multiplied
  rw [isLost_same, isLost_same]
  by_cases hx : x &&& 2139095040 = 2139095040
  · rw [isLost_yes hx]; exact ⟨_, rfl, rfl⟩
  · by_cases hy : y &&& 2139095040 = 2139095040
    · rw [isLost_no hx, isLost_yes hy]; exact ⟨_, rfl, rfl⟩
    · rw [isLost_no hx, isLost_no hy]
      obtain ⟨c, q, Dx, Ex, vx, cx, qx1, qx2, nx, dx, dxi, ex, exi⟩ := fl_dec x hx
      obtain ⟨d, r, Dy, Ey, vy, cy, qy1, qy2, ny, dy, dyi, ey, eyi⟩ := fl_dec y hy
      obtain ⟨wx, k, ux, _⟩ := worth_of hx vx cx qx1 qx2
      obtain ⟨wy, j, uy, _⟩ := worth_of hy vy cy qy1 qy2
      rw [dx, dy, ex, ey, wx, wy, ll_of dxi, ll_of dyi]
      have hm : c * d < 281474976710656 := by
        have : c * d ≤ 16777215 * d := Nat.mul_le_mul_right _ (by omega)
        omega
      have hp : Jvm.FP.Core.val64 (FP.dmul (FP.f2d x.toUInt32) (FP.f2d y.toUInt32)) = Jvm.FP.Core.round Jvm.FP.Core.b64 (.fin (decide (x < 0) != decide (y < 0)) (c * d) (q + r)) := by
        show Jvm.FP.Core.val64 (Jvm.FP.Core.dmul _ _) = _
        rw [Jvm.FP.Core.val64_dmul, ux, uy]
        show Jvm.FP.Core.round Jvm.FP.Core.b64 (.fin _ (c * 2 ^ k * (d * 2 ^ j)) (q - k + (r - j))) = _
        rw [show c * 2 ^ k * (d * 2 ^ j) = c * d * 2 ^ (k + j) by rw [Nat.pow_add, Nat.mul_mul_mul_comm], show q - (k : Int) + (r - j) = q + r - ((k + j : Nat) : Int) by omega, round_sh]
      have hn : Jvm.FP.Core.val64 (FP.dmul (FP.f2d x.toUInt32) (FP.f2d y.toUInt32)) ≠ .nan := by rw [hp]; exact rnd_ne
      refine ⟨b32of (Jvm.FP.Core.round Jvm.FP.Core.b32 (Jvm.FP.Core.val64 (FP.dmul (FP.f2d x.toUInt32) (FP.f2d y.toUInt32)))), ?_, ?_⟩
      rotate_left
      · show (if n64 _ then bd (f_M_cut _) _ else none) = _
        rw [if_pos (n64_of hn), cut_of hn]
        exact rfl
      · show bd (f_Fl_nearest _ _ _) _ = _
        rw [top_sgw, neg_xor, ll_mul, near_spec _ (by omega) (ii_add exi eyi (by omega) (by omega)) (by omega) (by omega), hp, round_wide _ (by omega) (by omega) (by omega)]
        rfl
def fl_tail (a0 a1 y13 y15 : Int32) : Option Int32 :=
  (bd (f_Fl_exponentOf y13) fun (r17 : Int32) => (nm (r17 - (30 : Int32)) fun (x19 : Int32) => (bd (f_Fl_exponentOf y13) fun (r20 : Int32) => (bd (f_Fl_exponentOf y15) fun (r22 : Int32) => (nm (r20 - r22) fun (x24 : Int32) => (bd (f_Fl_digitsOf y13) fun (r25 : Int64) => (nm (r25 <<< (((30 : Int32)).toInt64 &&& 63)) fun (x27 : Int64) => (nm (fun (y28 : Int64) => ((nm (fun (y30 : Int64) => ((nm (fun (y32 : Int64) => ((nm (y30 + y32) fun (x34 : Int64) => (if (lg_cmp x34 (0 : Int64)) = (0 : Int32) then (some ((a0 &&& a1) &&& (-2147483648 : Int32))) else (nm (fun (y36 : Int32) => ((nm (if (0 : Int64) < x34 then x34 else -x34) fun (x38 : Int64) => (bd (f_Fl_nearest y36 x38 x19) fun (r39 : Int32) => (some r39))) : Option (Int32))) fun J37 => (if (0 : Int32) ≤ (lg_cmp x34 (0 : Int64)) then (J37 (0 : Int32)) else (J37 (-2147483648 : Int32)))))) : Option (Int32))) fun J33 => (if (0 : Int32) ≤ y15 then (J33 y28) else (J33 (-y28)))) : Option (Int32))) fun J31 => (if (0 : Int32) ≤ y13 then (J31 x27) else (J31 (-x27)))) : Option (Int32))) fun J29 => (if x24 ≤ (62 : Int32) then (bd (f_Fl_digitsOf y15) fun (r45 : Int64) => (J29 ((r45 <<< (((30 : Int32)).toInt64 &&& 63)) >>> ((x24).toInt64 &&& 63)))) else (J29 (0 : Int64)))))))))))
theorem fl_sum_eq {a0 a1 E0 E1 : Int32} {r : Option Int32} (h0 : f_Fl_isLost a0 = some 0) (h1 : f_Fl_isLost a1 = some 0) (e0 : f_Fl_exponentOf a0 = some E0) (e1 : f_Fl_exponentOf a1 = some E1)
    (h : (if E0 < E1 then fl_tail a0 a1 a1 a0 else fl_tail a0 a1 a0 a1) = r) : f_Fl_sum a0 a1 = r := by
  unfold f_Fl_sum
  refine s_bd h0 (s_pos rfl (s_bd h1 (s_pos rfl (s_bd e0 (s_bd e1 ?_)))))
  have n1 : ¬ (1 : Int32) = 0 := by decide
  with_reducible refine s_nmj1 ?_
  by_cases g : E0 < E1
  · rw [if_pos g] at h
    with_reducible refine s_pos g ?_
    with_reducible refine s_nmj1 ?_
    with_reducible refine s_pos rfl ?_
    with_reducible refine s_nmj1 ?_
    with_reducible refine s_pos rfl ?_
    unfold fl_tail at h
    exact h
  · rw [if_neg g] at h
    with_reducible refine s_neg g ?_
    with_reducible refine s_nmj1 ?_
    with_reducible refine s_neg n1 ?_
    with_reducible refine s_nmj1 ?_
    with_reducible refine s_neg n1 ?_
    unfold fl_tail at h
    exact h
theorem signed_ite (b : Prop) [Decidable b] (n : Nat) : Jvm.FP.Core.signed (decide b) n = if b then -(n : Int) else n := by
  unfold Jvm.FP.Core.signed
  by_cases g : b
  · rw [decide_eq_true g, if_pos g]; rfl
  · rw [decide_eq_false g, if_neg g]; rfl
theorem lg_zero {x : Int64} {T : Int} (h : x.toInt = T) : lg_cmp x 0 = if 0 < T then 1 else if T = 0 then 0 else -1 := by
  unfold lg_cmp
  have e1 : x > 0 ↔ 0 < T := by rw [gt_iff_lt, Int64.lt_iff_toInt_lt, h]; exact Iff.rfl
  have e2 : x = 0 ↔ T = 0 := by rw [← Int64.toInt_inj, h]; exact Iff.rfl
  by_cases g : 0 < T
  · rw [if_pos g, if_pos (e1.mpr g)]
  · rw [if_neg g, if_neg (fun z => g (e1.mp z))]
    by_cases k : T = 0
    · rw [if_pos k, if_pos (e2.mpr k)]
    · rw [if_neg k, if_neg (fun z => k (e2.mp z))]
theorem sg_ll (y : Int32) {n : Nat} (h : n < 9223372036854775808) {α : Type} (J : Int64 → Option α) {r : Option α} (hJ : ∀ z : Int64, z.toInt = Jvm.FP.Core.signed (decide (y < 0)) n → J z = r) : nm J (fun J => (if (0 : Int32) ≤ y then (J (LL n)) else (J (-(LL n))))) = r := by
  refine s_nmj1 ?_
  by_cases g : (0 : Int32) ≤ y
  · rw [if_pos g]
    refine hJ _ ?_
    rw [signed_ite, if_neg (by rw [Int32.lt_iff_toInt_lt]; rw [Int32.le_iff_toInt_le] at g; omega), ll_int h]
  · rw [if_neg g]
    refine hJ _ ?_
    rw [signed_ite, if_pos (by rw [Int32.lt_iff_toInt_lt]; rw [Int32.le_iff_toInt_le] at g; omega), Int64.toInt_neg, ll_int h, Int.bmod_def]; omega
theorem fl_tail_spec (a0 a1 h l : Int32) {c d : Nat} {q r : Int} {Dh Dl : Int64} {Eh El : Int32}
    (hc : c < 16777216) (hq : -149 ≤ q) (hq2 : q ≤ 104) (hcn : q = -149 ∨ 8388608 ≤ c) (hd : d < 16777216) (hr : -149 ≤ r) (hrq : r ≤ q) {D : Nat} (hD : q - r = (D : Int)) {W : Int}
    (hW : W = Jvm.FP.Core.signed (decide (h < 0)) (c * 2 ^ D) + Jvm.FP.Core.signed (decide (l < 0)) d)
    (dh : f_Fl_digitsOf h = some Dh) (dhi : Dh.toInt = c) (eh : f_Fl_exponentOf h = some Eh) (ehi : Eh.toInt = q)
    (dl : f_Fl_digitsOf l = some Dl) (dli : Dl.toInt = d) (el : f_Fl_exponentOf l = some El) (eli : El.toInt = r) :
    fl_tail a0 a1 h l = some (if W = 0 then ((a0 &&& a1) &&& (-2147483648 : Int32)) else b32of (Jvm.FP.Core.round Jvm.FP.Core.b32 (Jvm.FP.Core.round Jvm.FP.Core.b64 (.fin (decide (W < 0)) W.natAbs r)))) := by
  have h0 := ll_of dhi
  have h1 := ll_of dli
  subst h0 h1
  unfold fl_tail
  with_reducible refine s_bd eh ?_
  with_reducible refine s_nm ?_; intro x19 h19
  with_reducible refine s_bd eh ?_
  with_reducible refine s_bd el ?_
  with_reducible refine s_nm ?_; intro x24 h24
  have i24 : x24 = NN D := ii_eq (by rw [h24, ii_sub ehi eli (by omega) (by omega), hD])
  with_reducible refine s_bd dh ?_
  with_reducible refine s_nm ?_; intro x27 h27
  rw [show (30 : Int32) = NN 30 from rfl, ll_shl (by omega) (by omega)] at h27
  subst h27
  obtain ⟨low, hlow⟩ : ∃ low, low = if D ≤ 62 then d * 2 ^ 30 / 2 ^ D else 0 := ⟨_, rfl⟩
  have hl : low < 9007199254740992 * 2 := by
    rw [hlow]
    by_cases k : D ≤ 62
    · rw [if_pos k]
      exact Nat.lt_of_le_of_lt (Nat.div_le_self _ _) (by omega)
    · rw [if_neg k]; omega
  obtain ⟨T, hT⟩ : ∃ T, T = Jvm.FP.Core.signed (decide (h < 0)) (c * 2 ^ 30) + Jvm.FP.Core.signed (decide (l < 0)) low := ⟨_, rfl⟩
  obtain ⟨z0, z1, z2⟩ := sum_pure hc hq hq2 hcn hd hr hrq hD hlow hT hW
  have i19 : x19.toInt = q - 30 := by rw [h19]; exact ii_sub ehi (show (30 : Int32).toInt = 30 from rfl) (by omega) (by omega)
  have key : ∀ {r' : Option Int32} (J29 : Int64 → Option Int32), J29 (LL low) = r' → nm J29 (fun J29 => (if x24 ≤ (62 : Int32) then (bd (f_Fl_digitsOf l) fun (r45 : Int64) => (J29 ((r45 <<< (((30 : Int32)).toInt64 &&& 63)) >>> ((x24).toInt64 &&& 63)))) else (J29 (0 : Int64)))) = r' := by
    intro r' J29 hJ
    refine s_nmj1 ?_
    by_cases k : D ≤ 62
    · rw [if_pos (by rw [i24]; exact (ii_le (b := 62) (nn_int (by omega)) rfl).mpr (by omega)), dl, bd_some, i24, show (30 : Int32) = NN 30 from rfl, ll_shl (by omega) (by omega), ll_shr (by omega) (by omega)]
      rw [if_pos k] at hlow
      rw [← hlow]; exact hJ
    · rw [if_neg (by rw [i24]; exact fun z => k (by have := (ii_le (b := 62) (nn_int (by omega)) rfl).mp z; omega))]
      rw [if_neg k] at hlow
      rw [hlow] at hJ; exact hJ
  with_reducible refine key _ ?_
  with_reducible refine sg_ll h (by omega) _ ?_
  intro z30 hz30
  with_reducible refine sg_ll l (by omega) _ ?_
  intro z32 hz32
  with_reducible refine s_nm ?_; intro x34 h34
  have sgb : ∀ (b : Bool) (n : Nat), -(n : Int) ≤ Jvm.FP.Core.signed b n ∧ Jvm.FP.Core.signed b n ≤ n := by
    intro b n
    unfold Jvm.FP.Core.signed
    cases b <;> simp <;> omega
  have b1 := sgb (decide (h < 0)) (c * 2 ^ 30)
  have b2 := sgb (decide (l < 0)) low
  have i34 : x34.toInt = T := by
    rw [h34, Int64.toInt_add, hz30, hz32, ← hT, Int.bmod_def]; omega
  have cz := lg_zero i34
  by_cases g : T = 0
  · rw [if_pos (z0.mp g)]
    with_reducible refine s_pos ?_ ?_
    · rw [cz, if_neg (by omega), if_pos g]
    · rfl
  · rw [if_neg (fun z => g (z0.mpr z))]
    with_reducible refine s_neg ?_ ?_
    · rw [cz, if_neg g]
      by_cases k : 0 < T
      · rw [if_pos k]; decide
      · rw [if_neg k]; decide
    · with_reducible refine s_nmj1 ?_
      have fin : ∀ sg : Int32, sg = sgw (decide (T < 0)) → (nm (if (0 : Int64) < x34 then x34 else -x34) fun (x38 : Int64) => (bd (f_Fl_nearest sg x38 x19) fun (r39 : Int32) => (some r39))) = some (b32of (Jvm.FP.Core.round Jvm.FP.Core.b32 (Jvm.FP.Core.round Jvm.FP.Core.b64 (.fin (decide (W < 0)) W.natAbs r)))) := by
        intro sg hsg
        have e1 : (if (0 : Int64) < x34 then x34 else -x34) = LL T.natAbs := by
          refine ll_of ?_
          by_cases k : 0 < T
          · rw [if_pos (by rw [Int64.lt_iff_toInt_lt, i34]; exact k), i34]; omega
          · rw [if_neg (by rw [Int64.lt_iff_toInt_lt, i34]; exact k), Int64.toInt_neg, i34, Int.bmod_def]; omega
        rw [e1, hsg]
        unfold nm
        simp only []
        rw [near_spec _ (by omega) i19 (by omega) (by omega), z2 (fun z => g (z0.mpr z))]
        rfl
      by_cases k : T < 0
      · with_reducible refine s_neg ?_ ?_
        · rw [cz, if_neg (by omega), if_neg g]; decide
        · exact fin _ (by rw [decide_eq_true k]; rfl)
      · with_reducible refine s_pos ?_ ?_
        · rw [cz, if_pos (by omega)]; decide
        · exact fin _ (by rw [decide_eq_false k]; rfl)
theorem F_sum (x y : Int32) : ∃ z, f_Fl_sum x y = some z ∧ f_M_added x y = some z := by
  unfold f_M_added
  rw [isLost_same, isLost_same]
  by_cases hx : x &&& 2139095040 = 2139095040
  · rw [isLost_yes hx]; exact ⟨_, s_bd (isLost_yes hx) rfl, rfl⟩
  · by_cases hy : y &&& 2139095040 = 2139095040
    · rw [isLost_no hx, isLost_yes hy]; exact ⟨_, s_bd (isLost_no hx) (s_pos rfl (s_bd (isLost_yes hy) rfl)), rfl⟩
    · rw [isLost_no hx, isLost_no hy]
      obtain ⟨c, q, Dx, Ex, vx, cx, qx1, qx2, nx, dx, dxi, ex, exi⟩ := fl_dec x hx
      obtain ⟨d, r, Dy, Ey, vy, cy, qy1, qy2, ny, dy, dyi, ey, eyi⟩ := fl_dec y hy
      obtain ⟨wx, k, ux, _⟩ := worth_of hx vx cx qx1 qx2
      obtain ⟨wy, j, uy, _⟩ := worth_of hy vy cy qy1 qy2
      rw [wx, wy]
      have hv : Jvm.FP.Core.val64 (FP.dadd (FP.f2d x.toUInt32) (FP.f2d y.toUInt32)) = Jvm.FP.Core.round Jvm.FP.Core.b64 (Jvm.FP.Core.exactSum (.fin (decide (x < 0)) (c * 2 ^ k) (q - k)) (.fin (decide (y < 0)) (d * 2 ^ j) (r - j))) := by
        show Jvm.FP.Core.val64 (Jvm.FP.Core.dadd _ _) = _
        rw [Jvm.FP.Core.val64_dadd, ux, uy]
      have zero : ∀ (W : Int) (e : Int) (s t : Bool), s = decide (x < 0) → t = decide (y < 0) → (if W = 0 then ((x &&& y) &&& (-2147483648 : Int32)) else b32of (Jvm.FP.Core.round Jvm.FP.Core.b32 (Jvm.FP.Core.round Jvm.FP.Core.b64 (.fin (decide (W < 0)) W.natAbs e)))) = b32of (Jvm.FP.Core.round Jvm.FP.Core.b32 (Jvm.FP.Core.round Jvm.FP.Core.b64 (.fin (if W = 0 then s && t else decide (W < 0)) W.natAbs e))) := by
        intro W e s t hs ht
        by_cases g : W = 0
        · rw [if_pos g, if_pos g, g, top_sgw, neg_and, ← hs, ← ht]
          have z : ∀ (f : Jvm.FP.Core.Fmt) (b : Bool) (e : Int), Jvm.FP.Core.round f (.fin b 0 e) = .fin b 0 f.qmin := fun f b e => by
            show Jvm.FP.Core.roundRatio f b 0 1 e = _; unfold Jvm.FP.Core.roundRatio; exact if_pos rfl
          rw [show (0 : Int).natAbs = 0 from rfl, z, z]
          generalize (s && t) = b
          cases b <;> rfl
        · rw [if_neg g, if_neg g]
      have hn : Jvm.FP.Core.val64 (FP.dadd (FP.f2d x.toUInt32) (FP.f2d y.toUInt32)) ≠ .nan := by rw [hv]; exact rnd_ne
      refine ⟨b32of (Jvm.FP.Core.round Jvm.FP.Core.b32 (Jvm.FP.Core.val64 (FP.dadd (FP.f2d x.toUInt32) (FP.f2d y.toUInt32)))), ?_, ?_⟩
      rotate_left
      · show (if n64 _ then bd (f_M_cut _) _ else none) = _
        rw [if_pos (n64_of hn), cut_of hn]
        exact rfl
      · refine fl_sum_eq (isLost_no hx) (isLost_no hy) ex ey ?_
        rw [hv]
        by_cases g : q < r
        · rw [if_pos ((ii_lt exi eyi).mpr g)]
          obtain ⟨D, hD⟩ : ∃ D : Nat, r - q = (D : Int) := ⟨(r - q).toNat, by omega⟩
          rw [fl_tail_spec x y y x cy qy1 qy2 ny cx qx1 (by omega) hD rfl dy dyi ey eyi dx dxi ex exi, Jvm.FP.Core.exactSum_comm, sum_wide (by omega) hD j k rfl]
          rw [zero _ _ (decide (x < 0)) (decide (y < 0)) rfl rfl, Bool.and_comm]
        · rw [if_neg (fun z => g ((ii_lt exi eyi).mp z))]
          obtain ⟨D, hD⟩ : ∃ D : Nat, q - r = (D : Int) := ⟨(q - r).toNat, by omega⟩
          rw [fl_tail_spec x y x y cx qx1 qx2 nx cy qy1 (by omega) hD rfl dx dxi ex exi dy dyi ey eyi, sum_wide (by omega) hD k j rfl]
          rw [zero _ _ (decide (x < 0)) (decide (y < 0)) rfl rfl]
theorem trunc_sh (c k : Nat) (q : Int) : c * 2 ^ k * 2 ^ (q - k).toNat / 2 ^ (-(q - (k : Int))).toNat = c * 2 ^ q.toNat / 2 ^ (-q).toNat := by
  by_cases g : (k : Int) ≤ q
  · rw [show (-(q - (k : Int))).toNat = 0 by omega, show (-q).toNat = 0 by omega, Nat.mul_assoc, ← Nat.pow_add, show k + (q - (k : Int)).toNat = q.toNat by omega]
  · rw [show (q - (k : Int)).toNat = 0 by omega, Nat.pow_zero, Nat.mul_one]
    by_cases h : 0 ≤ q
    · rw [show (-q).toNat = 0 by omega, Nat.pow_zero, Nat.div_one, show k = q.toNat + (-(q - (k : Int))).toNat by omega, Nat.pow_add, ← Nat.mul_assoc]
      rw [show (-(q - ((q.toNat + (-(q - (k : Int))).toNat : Nat) : Int))).toNat = (-(q - (k : Int))).toNat by omega]
      exact Nat.mul_div_cancel _ (Nat.two_pow_pos _)
    · rw [show q.toNat = 0 by omega, Nat.pow_zero, Nat.mul_one, show (-(q - (k : Int))).toNat = (-q).toNat + k by omega, Nat.pow_add]
      exact Nat.mul_div_mul_right _ _ (Nat.two_pow_pos _)
theorem F_whole (x : Int32) : ∃ y, f_Fl_toWhole x = some y ∧ f_M_whole x = some y := by
  unfold f_M_whole
  rw [isLost_same]
  by_cases hx : x &&& 2139095040 = 2139095040
  · rw [isLost_yes hx]; exact ⟨_, s_bd (isLost_yes hx) rfl, rfl⟩
  · rw [isLost_no hx]
    obtain ⟨c, q, Dx, Ex, vx, cx, qx1, qx2, nx, dx, dxi, ex, exi⟩ := fl_dec x hx
    obtain ⟨wx, k, ux, _⟩ := worth_of hx vx cx qx1 qx2
    have h0 := ll_of dxi
    subst h0
    rw [wx]
    obtain ⟨V, hV⟩ : ∃ V, V = c * 2 ^ q.toNat / 2 ^ (-q).toNat := ⟨_, rfl⟩
    have hm : FP.d2i (FP.f2d x.toUInt32) = Int32.ofInt (max (-2 ^ 31) (min (2 ^ 31 - 1) (Jvm.FP.Core.signed (decide (x < 0)) V))) := by
      show Jvm.FP.Core.toI (Jvm.FP.Core.val64 _) = _
      rw [ux]
      show Int32.ofInt (max (-2 ^ 31) (min (2 ^ 31 - 1) (Jvm.FP.Core.signed (decide (x < 0)) (c * 2 ^ k * 2 ^ (q - (k : Int)).toNat / 2 ^ (-(q - (k : Int))).toNat)))) = _
      rw [trunc_sh, ← hV]
    refine ⟨FP.d2i (FP.f2d x.toUInt32), ?_, rfl⟩
    rw [hm]
    unfold f_Fl_toWhole
    with_reducible refine s_bd (isLost_no hx) (s_pos rfl ?_)
    with_reducible refine s_bd ex ?_
    with_reducible refine s_bd dx ?_
    obtain ⟨U, hU, hUV⟩ : ∃ U : Nat, U < 8589934592 ∧ (U = V ∨ (2147483648 ≤ U ∧ 2147483648 ≤ V)) ∧ ∀ {r' : Option Int32} (J : Int64 → Option Int32), J (LL U) = r' → nm J (fun J9 => (if Ex ≤ (8 : Int32) then (if Ex < (0 : Int32) then (if (-24 : Int32) ≤ Ex then (nm (LL c >>> (((-Ex)).toInt64 &&& 63)) fun (x16 : Int64) => (J9 x16)) else (J9 (0 : Int64))) else (nm (LL c <<< ((Ex).toInt64 &&& 63)) fun (x17 : Int64) => (J9 x17))) else (J9 (2147483648 : Int64)))) = r' := by
      by_cases g : q ≤ 8
      · by_cases g0 : q < 0
        · by_cases g2 : -24 ≤ q
          · obtain ⟨n, hn⟩ : ∃ n : Nat, q = -(n : Int) := ⟨(-q).toNat, by omega⟩
            have en : -Ex = NN n := ii_eq (by rw [ii_neg exi (by omega)]; omega)
            have hle : c / 2 ^ n ≤ c := Nat.div_le_self _ _
            refine ⟨c / 2 ^ n, by omega, Or.inl ?_, fun J hJ => s_nmj1 ?_⟩
            · rw [hV, hn, show (-(n : Int)).toNat = 0 by omega, show (- -(n : Int)).toNat = n by omega, Nat.pow_zero, Nat.mul_one]
            · refine s_pos ((ii_le (b := 8) exi rfl).mpr g) (s_pos ((ii_lt (b := 0) exi rfl).mpr g0) (s_pos ((ii_le (a := -24) rfl exi).mpr g2) ?_))
              rw [en, ll_shr (by omega) (by omega)]
              exact hJ
          · refine ⟨0, by omega, Or.inl ?_, fun J hJ => s_nmj1 ?_⟩
            · rw [hV, show q.toNat = 0 by omega, Nat.pow_zero, Nat.mul_one]
              refine (Nat.div_eq_of_lt (Nat.lt_of_lt_of_le cx ?_)).symm
              exact Nat.pow_le_pow_right (n := 2) (i := 24) (by omega) (by omega)
            · exact s_pos ((ii_le (b := 8) exi rfl).mpr g) (s_pos ((ii_lt (b := 0) exi rfl).mpr g0) (s_neg (fun z => g2 ((ii_le (a := -24) rfl exi).mp z)) hJ))
        · obtain ⟨n, hn⟩ : ∃ n : Nat, q = (n : Int) := ⟨q.toNat, by omega⟩
          have en : Ex = NN n := ii_eq (by rw [exi, hn])
          have hb : c * 2 ^ n ≤ c * 2 ^ 8 := Nat.mul_le_mul_left _ (Nat.pow_le_pow_right (by omega) (by omega))
          refine ⟨c * 2 ^ n, by omega, Or.inl ?_, fun J hJ => s_nmj1 ?_⟩
          · rw [hV, hn, show (-(n : Int)).toNat = 0 by omega, Int.toNat_natCast, Nat.pow_zero, Nat.div_one]
          · refine s_pos ((ii_le (b := 8) exi rfl).mpr g) (s_neg (fun z => g0 ((ii_lt (b := 0) exi rfl).mp z)) ?_)
            rw [en, ll_shl (by omega) (by omega)]
            exact hJ
      · refine ⟨2147483648, by omega, Or.inr ⟨by omega, ?_⟩, fun J hJ => s_nmj1 ?_⟩
        · rw [hV, show (-q).toNat = 0 by omega, Nat.pow_zero, Nat.div_one]
          have h1 : 2 ^ 9 ≤ 2 ^ q.toNat := Nat.pow_le_pow_right (by omega) (by omega)
          have h2 : 8388608 * 2 ^ 9 ≤ c * 2 ^ q.toNat := Nat.mul_le_mul (by omega) h1
          omega
        · exact s_neg (fun z => g ((ii_le (b := 8) exi rfl).mp z)) hJ
    with_reducible refine hUV.2 _ ?_
    have hUV := hUV.1
    have ofi : ∀ i : Int, -2147483648 ≤ i → i < 2147483648 → (Int32.ofInt i).toInt = i := fun i h1 h2 => Int32.toInt_ofInt_of_le h1 h2
    by_cases g : x < 0
    · have g' : ¬ (0 : Int32) ≤ x := by rw [Int32.lt_iff_toInt_lt] at g; rw [Int32.le_iff_toInt_le]; omega
      with_reducible refine s_neg g' ?_
      have e1 : (if (2147483648 : Int64) < LL U then (2147483648 : Int64) else LL U) = LL (min U 2147483648) := by
        by_cases k : 2147483648 < U
        · rw [if_pos (show (2147483648 : Int64) < _ from (ll_lt (a := 2147483648) (by omega) (by omega)).mpr k), Nat.min_eq_right (by omega)]; rfl
        · rw [if_neg (show ¬ (2147483648 : Int64) < _ from fun z => k ((ll_lt (a := 2147483648) (by omega) (by omega)).mp z)), Nat.min_eq_left (by omega)]
      rw [e1]
      refine congrArg some (Int32.toInt_inj.mp ?_)
      have hs : Jvm.FP.Core.signed (decide (x < 0)) V = -(V : Int) := by rw [signed_ite, if_pos g]
      rw [hs, ofi _ (by omega) (by omega), Int64.toInt32_neg, ll_32, Int32.toInt_neg]
      have e2 : (NN (min U 2147483648)).toInt = if min U 2147483648 = 2147483648 then -2147483648 else ((min U 2147483648 : Nat) : Int) := by
        by_cases k : min U 2147483648 = 2147483648
        · rw [if_pos k, k]; rfl
        · rw [if_neg k, nn_int (by omega)]
      rw [e2, Int.bmod_def]
      split <;> omega
    · have g' : (0 : Int32) ≤ x := by rw [Int32.lt_iff_toInt_lt] at g; rw [Int32.le_iff_toInt_le]; omega
      with_reducible refine s_pos g' ?_
      have e1 : (if (2147483647 : Int64) < LL U then (2147483647 : Int64) else LL U) = LL (min U 2147483647) := by
        by_cases k : 2147483647 < U
        · rw [if_pos (show (2147483647 : Int64) < _ from (ll_lt (a := 2147483647) (by omega) (by omega)).mpr k), Nat.min_eq_right (by omega)]; rfl
        · rw [if_neg (show ¬ (2147483647 : Int64) < _ from fun z => k ((ll_lt (a := 2147483647) (by omega) (by omega)).mp z)), Nat.min_eq_left (by omega)]
      rw [e1]
      refine congrArg some (Int32.toInt_inj.mp ?_)
      have hs : Jvm.FP.Core.signed (decide (x < 0)) V = (V : Int) := by rw [signed_ite, if_neg g]
      rw [hs, ofi _ (by omega) (by omega), ll_32, nn_int (by omega)]
      omega
theorem order_sh (s t : Bool) (c d k j : Nat) (q r : Int) : Jvm.FP.Core.order (.fin s (c * 2 ^ k) (q - k)) (.fin t (d * 2 ^ j) (r - j)) = Jvm.FP.Core.order (.fin s c q) (.fin t d r) := by
  show some (compare _ _) = some (compare _ _)
  obtain ⟨m, hm⟩ : ∃ m : Int, m = min (q - (k : Int)) (r - (j : Int)) := ⟨_, rfl⟩
  obtain ⟨w, hw⟩ : ∃ w : Int, w = min q r := ⟨_, rfl⟩
  rw [← hm, ← hw]
  obtain ⟨n, hn⟩ : ∃ n : Nat, w - m = (n : Int) := ⟨(w - m).toNat, by omega⟩
  unfold Jvm.FP.Core.inUnits
  have a1 : c * 2 ^ k * 2 ^ (q - (k : Int) - m).toNat = c * 2 ^ (q - w).toNat * 2 ^ n := by
    rw [Nat.mul_assoc, ← Nat.pow_add, Nat.mul_assoc, ← Nat.pow_add, show k + (q - (k : Int) - m).toNat = (q - w).toNat + n by omega]
  have a2 : d * 2 ^ j * 2 ^ (r - (j : Int) - m).toNat = d * 2 ^ (r - w).toNat * 2 ^ n := by
    rw [Nat.mul_assoc, ← Nat.pow_add, Nat.mul_assoc, ← Nat.pow_add, show j + (r - (j : Int) - m).toNat = (r - w).toNat + n by omega]
  rw [a1, a2, Jvm.FP.Core.signed_mul, Jvm.FP.Core.signed_mul t]
  have hp : (0 : Int) < ((2 ^ n : Nat) : Int) := Int.natCast_pos.mpr (Nat.two_pow_pos n)
  generalize Jvm.FP.Core.signed s (c * 2 ^ (q - w).toNat) = A
  generalize Jvm.FP.Core.signed t (d * 2 ^ (r - w).toNat) = B
  generalize ((2 ^ n : Nat) : Int) = p at hp
  rw [Jvm.FP.Core.compare_ite, Jvm.FP.Core.compare_ite]
  have l : A * p < B * p ↔ A < B := Int.mul_lt_mul_right hp
  have e : A * p = B * p ↔ A = B := Int.mul_eq_mul_right_iff (by omega)
  by_cases g : A < B
  · rw [if_pos g, if_pos (l.mpr g)]
  · rw [if_neg g, if_neg (fun z => g (l.mp z))]
    by_cases h : A = B
    · rw [if_pos h, if_pos (e.mpr h)]
    · rw [if_neg h, if_neg (fun z => h (e.mp z))]
theorem rank_key (x : Int32) : ∃ R, f_Fl_rank x = some R ∧ R.toInt = Jvm.FP.Core.fkey x.toUInt32 := by
  have hb := bN_lt x
  have hi := bN_int x
  unfold f_Fl_rank Jvm.FP.Core.fkey
  rw [bN_u]
  by_cases g : (0 : Int32) ≤ x
  · have g' := g
    rw [Int32.le_iff_toInt_le, show (0 : Int32).toInt = 0 from rfl, hi] at g'
    have : bN x < 2147483648 := by split at g' <;> omega
    refine ⟨x, if_pos g, ?_⟩
    rw [hi, if_pos this, if_neg (by omega)]
  · have g' := g
    rw [Int32.le_iff_toInt_le, show (0 : Int32).toInt = 0 from rfl, hi] at g'
    have : 2147483648 ≤ bN x := by split at g' <;> omega
    refine ⟨_, if_neg g, ?_⟩
    have e1 : x &&& (2147483647 : Int32) = NN (bN x - 2147483648) := by
      refine bN_inj ?_
      rw [bN_and, show bN 2147483647 = 2147483647 from rfl, fl_and31]
      show _ = (BitVec.ofNat 32 _).toNat
      rw [BitVec.toNat_ofNat]
      omega
    rw [e1, Int32.toInt_neg, nn_int (by omega), if_pos (by omega), Int.bmod_def]
    omega
theorem F_under (x y : Int32) (p q : Int32) : ∃ g, g < 2 ∧ f_Fl_isUnder x y = some (NN g) ∧ f_M_goesBy (NN 23) p q x y = some (NN g) := by
  have n1 : ¬ NN 23 = (21 : Int32) := by decide
  have n2 : ¬ NN 23 = (22 : Int32) := by decide
  by_cases hx : x &&& 2139095040 = 2139095040
  · exact ⟨0, by omega, s_bd (isLost_yes hx) rfl, s_neg n1 (s_neg n2 (s_bd (isLost_yes hx) rfl))⟩
  · by_cases hy : y &&& 2139095040 = 2139095040
    · exact ⟨0, by omega, s_bd (isLost_no hx) (s_pos rfl (s_bd (isLost_yes hy) rfl)), s_neg n1 (s_neg n2 (s_bd (isLost_no hx) (s_pos rfl (s_bd (isLost_yes hy) rfl))))⟩
    · obtain ⟨c, q', Dx, Ex, vx, cx, qx1, qx2, nx, dx, dxi, ex, exi⟩ := fl_dec x hx
      obtain ⟨d, r, Dy, Ey, vy, cy, qy1, qy2, ny, dy, dyi, ey, eyi⟩ := fl_dec y hy
      obtain ⟨wx, k, ux, _⟩ := worth_of hx vx cx qx1 qx2
      obtain ⟨wy, j, uy, _⟩ := worth_of hy vy cy qy1 qy2
      obtain ⟨Rx, rx, rxi⟩ := rank_key x
      obtain ⟨Ry, ry, ryi⟩ := rank_key y
      have hcmp : FP.dcmp (FP.f2d x.toUInt32) (FP.f2d y.toUInt32) = FP.fcmp x.toUInt32 y.toUInt32 := by
        show Jvm.FP.Core.order (Jvm.FP.Core.val64 _) (Jvm.FP.Core.val64 _) = Jvm.FP.Core.order (Jvm.FP.Core.val32 _) (Jvm.FP.Core.val32 _)
        rw [ux, uy, vx, vy, order_sh]
      have fl := Jvm.FP.Core.fcmp_lt_key (a := x.toUInt32) (b := y.toUInt32) (by rw [vx]; exact fin_ne) (by rw [vy]; exact fin_ne)
      obtain ⟨o, ho⟩ : ∃ o, FP.fcmp x.toUInt32 y.toUInt32 = some o := by
        show ∃ o, Jvm.FP.Core.order (Jvm.FP.Core.val32 _) (Jvm.FP.Core.val32 _) = some o
        rw [vx, vy]; exact ⟨_, rfl⟩
      have fl : o = .lt ↔ Rx < Ry := by
        rw [ii_lt rxi ryi, ← fl]
        constructor
        · intro h; rw [h] at ho; exact ho
        · intro h; exact Option.some.inj (ho.symm.trans h)
      have A : ∀ {r : Option Int32}, (if (0 : Int32) ≤ (Op.cmpValue (some o) .g) then (some (0 : Int32)) else (some (1 : Int32))) = r → f_M_goesBy (NN 23) p q x y = r := by
        intro r h
        unfold f_M_goesBy
        refine s_neg n1 (s_neg n2 (s_bd (isLost_no hx) (s_pos rfl (s_bd (isLost_no hy) (s_pos rfl (s_bd wx (s_bd wy ?_)))))))
        rw [hcmp, ho]; exact h
      have B : ∀ {r : Option Int32}, (if Ry ≤ Rx then (some (0 : Int32)) else (some (1 : Int32))) = r → f_Fl_isUnder x y = r := by
        intro r h
        unfold f_Fl_isUnder
        exact s_bd (isLost_no hx) (s_pos rfl (s_bd (isLost_no hy) (s_pos rfl (s_bd rx (s_bd ry h)))))
      by_cases g : o = .lt
      · refine ⟨1, by omega, B ?_, A ?_⟩
        · exact if_neg (by have := fl.mp g; rw [Int32.lt_iff_toInt_lt] at this; rw [Int32.le_iff_toInt_le]; omega)
        · rw [g]; rfl
      · refine ⟨0, by omega, B ?_, A ?_⟩
        · exact if_pos (by have := fun z => g (fl.mpr z); rw [Int32.lt_iff_toInt_lt] at this; rw [Int32.le_iff_toInt_le]; exact Int.not_lt.mp this)
        · cases o with
          | lt => exact absurd rfl g
          | eq => rfl
          | gt => rfl
