/-! the loop of the law -/
theorem lw_exit {p : Program} {l : Launch} {e : Env} {s : State} {m : MethodId} {below : List Frame} {meth : Method} {c : Code} {D : va_G} {K : Nat → ClassId} {A : Nat → Prop} {la b L : Nat} {xs : Nat → Int32} {qo qr q qi qt qa qm : Nat → Nat} (hl : l.stackTraces = false) (xx : XX K A s s.heap) (hX : va_X b L xs s s.heap) (hb : b < s.heap.size) (hA : ∀ q, A q → s.heap.size ≤ q) (hL : L ≤ 3072) {B i cells slots : Nat} (hc : cells ≤ 1192) (hs : slots ≤ 16708) (cx : Cx p room_1 s m #[Value.ref b] meth c D K A RL cL_law 7 ret cells slots) : GoOn p l e s m #[Value.ref b] below meth c D K A (lw_Z below #[Value.ref b] s) la b qo qr q qi qt qa qm B i cells slots 1311 := by
  intro jf g qe xim xtr tt rd pa im tr al pr df mm h hx
  refine r_iconst (pc := 1311) cx dL_law_1311 ic_1 ?_
  intro H locs ls hP hD hS hls
  refine va_forget (fun z hz => hA _ (hS.2.2 z hz)) (W.widen hc hs (W.base ?_))
  exact lw_ret (Drawn.sameBut.refl s.drawn lw_cs) cx.1 cx.2.1 cx.2.2.2.2.2.1 cx.2.2.2.2.2.2.1 dL_law_1312
theorem and63 (x : Int32) : ∃ j, j < 64 ∧ x &&& (63 : Int32) = NN j := by
  refine ⟨bN x % 64, by omega, bN_inj ?_⟩
  rw [bN_and, show bN 63 = 63 from rfl, Nat.and_two_pow_sub_one_eq_mod _ 6]
  show _ = (BitVec.ofNat 32 _).toNat
  rw [BitVec.toNat_ofNat]
  omega
theorem lw_step {p : Program} {l : Launch} {e : Env} {s : State} {m : MethodId} {below : List Frame} {meth : Method} {c : Code} {D : va_G} {K : Nat → ClassId} {A : Nat → Prop} {la b L : Nat} {xs : Nat → Int32} {qo qr q qi qt qa qm : Nat → Nat} (hl : l.stackTraces = false) (xx : XX K A s s.heap) (hX : va_X b L xs s s.heap) (hb : b < s.heap.size) (hA : ∀ q, A q → s.heap.size ≤ q) (hL : L ≤ 3072) {B i cells slots : Nat} (hi : i + 5 < L) (hB : B < 800000) (hc : cells + 1 ≤ room_1.cells) (hs : slots + 6 ≤ room_1.slots) (cx : Cx p room_1 s m #[Value.ref b] meth c D K A RL cL_law 7 ret cells slots)
    (go : GoOn p l e s m #[Value.ref b] below meth c D K A (lw_Z below #[Value.ref b] s) la b qo qr q qi qt qa qm (B + 300) (i + 6) (cells + 1) (slots + 6) 23) : GoOn p l e s m #[Value.ref b] below meth c D K A (lw_Z below #[Value.ref b] s) la b qo qr q qi qt qa qm B i cells slots 23 := by
  have go1 : GoOn p l e s m #[Value.ref b] below meth c D K A (lw_Z below #[Value.ref b] s) la b qo qr q qi qt qa qm (B + 300) i (cells + 1) (slots + 6) 1305 := by
    intro jf g qe xim xtr tt rd pa im tr al pr df mm h hx
    have cx' := cx.up hc hs
    refine r_iinc (pc := 1305) (loc' := locL la b qo qm (i + 6)) (v := NN (i + 6)) cx' dL_law_1305 0 rfl ?_ (by decide) rfl ?_
    · rw [show Int32.ofInt 6 = NN 6 from rfl, n_add]
    · exact r_goto (pc := 1308) (tgt := 23) cx' dL_law_1308 (by decide) (go jf g qe xim xtr tt rd pa im tr al pr df mm h hx)
  intro jf g qe xim xtr tt rd pa im tr al pr df mm h hx
  refine r_iload (pc := 23) cx dL_law_23 0 rfl ?_
  refine r_aload_n (pc := 25) cx dL_law_25 4 rfl ?_
  refine r_slen (pc := 26) cx hX hb hA (show Int32.ofNat L = NN L from rfl) dL_law_26 ?_
  refine r_bipush (pc := 27) cx dL_law_27 (show (Int8.ofInt 6).toInt32 = NN 6 by decide) ?_
  refine r_isub (pc := 29) cx dL_law_29 ?_
  have e6 : NN L - NN 6 = NN (L - 6) := ii_eq (by rw [ii_sub (nn_int (by omega)) (nn_int (by omega)) (by omega) (by omega)]; omega)
  refine r_icmp_gt (pc := 30) (tgt := 1311) cx dL_law_30 (by decide) (fun z => ?_) (fun _ => ?_)
  · rw [e6, Int32.lt_iff_toInt_lt, nn_int (by omega), nn_int (by omega)] at z
    omega
  refine r_aload_n (pc := 33) cx dL_law_33 4 rfl ?_
  refine r_iload (pc := 34) cx dL_law_34 0 rfl ?_
  have hin : ix (NN i) L := by
    unfold ix
    rw [n_tn (by omega), Int32.lt_iff_toInt_lt, nn_int (by omega), show (0 : Int32).toInt = 0 from rfl]
    omega
  refine r_sald (pc := 36) cx hX hb hA hin dL_law_36 ?_
  refine r_bipush (pc := 37) cx dL_law_37 (show (Int8.ofInt 63).toInt32 = (63 : Int32) by decide) ?_
  refine r_iand (pc := 39) cx dL_law_39 ?_
  obtain ⟨j, hj, ej⟩ := and63 (xs (NN i).toNatClampNeg)
  rw [ej]
  rcases (show j = 0 ∨ j = 1 ∨ j = 2 ∨ j = 3 ∨ j = 4 ∨ j = 5 ∨ j = 6 ∨ j = 7 ∨ j = 8 ∨ j = 9 ∨ j = 10 ∨ j = 11 ∨ j = 12 ∨ j = 13 ∨ j = 14 ∨ j = 15 ∨ j = 16 ∨ j = 17 ∨ j = 18 ∨ j = 19 ∨ j = 20 ∨ j = 21 ∨ j = 22 ∨ j = 23 ∨ j = 24 ∨ j = 25 ∨ j = 26 ∨ j = 27 ∨ j = 28 ∨ j = 29 ∨ j = 30 ∨ j = 31 ∨ j = 32 ∨ j = 33 ∨ 34 ≤ j by omega) with rfl | rfl | rfl | rfl | rfl | rfl | rfl | rfl | rfl | rfl | rfl | rfl | rfl | rfl | rfl | rfl | rfl | rfl | rfl | rfl | rfl | rfl | rfl | rfl | rfl | rfl | rfl | rfl | rfl | rfl | rfl | rfl | rfl | rfl | hj34
  · exact r_tin (pc := 40) (tgt := 192) cx (0 : Int32) rfl dL_law_40 (by decide) (by decide) rfl (by decide) (lw_feed hl cx xx hX hb hA hL hi hB hc hs go1 jf g qe xim xtr tt rd pa im tr al pr df mm h hx)
  · exact r_tin (pc := 40) (tgt := 265) cx (1 : Int32) rfl dL_law_40 (by decide) (by decide) rfl (by decide) (lw_text hl cx xx hX hb hA hL hi hB hc hs go1 jf g qe xim xtr tt rd pa im tr al pr df mm h hx)
  · exact r_tin (pc := 40) (tgt := 290) cx (2 : Int32) rfl dL_law_40 (by decide) (by decide) rfl (by decide) (lw_fault hl cx xx hX hb hA hL hi hB hc hs go1 jf g qe xim xtr tt rd pa im tr al pr df mm h hx)
  · exact r_tin (pc := 40) (tgt := 315) cx (3 : Int32) rfl dL_law_40 (by decide) (by decide) rfl (by decide) (lw_named hl cx xx hX hb hA hL hi hB hc hs go1 jf g qe xim xtr tt rd pa im tr al pr df mm h hx)
  · exact r_tin (pc := 40) (tgt := 340) cx (4 : Int32) rfl dL_law_40 (by decide) (by decide) rfl (by decide) (lw_go hl cx xx hX hb hA hL hi hB hc hs go1 jf g qe xim xtr tt rd pa im tr al pr df mm h hx)
  · exact r_tin (pc := 40) (tgt := 365) cx (5 : Int32) rfl dL_law_40 (by decide) (by decide) rfl (by decide) (lw_flip hl cx xx hX hb hA hL hi hB hc hs go1 jf g qe xim xtr tt rd pa im tr al pr df mm h hx)
  · exact r_tin (pc := 40) (tgt := 414) cx (6 : Int32) rfl dL_law_40 (by decide) (by decide) rfl (by decide) (lw_thread hl cx xx hX hb hA hL hi hB hc hs go1 jf g qe xim xtr tt rd pa im tr al pr df mm h hx)
  · exact r_tin (pc := 40) (tgt := 482) cx (7 : Int32) rfl dL_law_40 (by decide) (by decide) rfl (by decide) (lw_register hl cx xx hX hb hA hL hi hB hc hs go1 jf g qe xim xtr tt rd pa im tr al pr df mm h hx)
  · exact r_tin (pc := 40) (tgt := 519) cx (8 : Int32) rfl dL_law_40 (by decide) (by decide) rfl (by decide) (lw_real hl cx xx hX hb hA hL hi hB hc hs go1 jf g qe xim xtr tt rd pa im tr al pr df mm h hx)
  · exact r_tin (pc := 40) (tgt := 556) cx (9 : Int32) rfl dL_law_40 (by decide) (by decide) rfl (by decide) (lw_memory hl cx xx hX hb hA hL hi hB hc hs go1 jf g qe xim xtr tt rd pa im tr al pr df mm h hx)
  · exact r_tin (pc := 40) (tgt := 581) cx (10 : Int32) rfl dL_law_40 (by decide) (by decide) rfl (by decide) (lw_output hl cx xx hX hb hA hL hi hB hc hs go1 jf g qe xim xtr tt rd pa im tr al pr df mm h hx)
  · exact r_tin (pc := 40) (tgt := 606) cx (11 : Int32) rfl dL_law_40 (by decide) (by decide) rfl (by decide) (lw_queued hl cx xx hX hb hA hL hi hB hc hs go1 jf g qe xim xtr tt rd pa im tr al pr df mm h hx)
  · exact r_tin (pc := 40) (tgt := 655) cx (12 : Int32) rfl dL_law_40 (by decide) (by decide) rfl (by decide) (lw_next hl cx xx hX hb hA hL hi hB hc hs go1 jf g qe xim xtr tt rd pa im tr al pr df mm h hx)
  · exact r_tin (pc := 40) (tgt := 668) cx (13 : Int32) rfl dL_law_40 (by decide) (by decide) rfl (by decide) (lw_alarm hl cx xx hX hb hA hL hi hB hc hs go1 jf g qe xim xtr tt rd pa im tr al pr df mm h hx)
  · exact r_tin (pc := 40) (tgt := 705) cx (14 : Int32) rfl dL_law_40 (by decide) (by decide) rfl (by decide) (lw_plain hl cx xx hX hb hA hL hi hB hc hs go1 jf g qe xim xtr tt rd pa im tr al pr df mm h hx)
  · exact r_tin (pc := 40) (tgt := 742) cx (15 : Int32) rfl dL_law_40 (by decide) (by decide) rfl (by decide) (lw_plainOf hl cx xx hX hb hA hL hi hB hc hs go1 jf g qe xim xtr tt rd pa im tr al pr df mm h hx)
  · exact r_tin (pc := 40) (tgt := 791) cx (16 : Int32) rfl dL_law_40 (by decide) (by decide) rfl (by decide) (lw_compared hl cx xx hX hb hA hL hi hB hc hs go1 jf g qe xim xtr tt rd pa im tr al pr df mm h hx)
  · exact r_tin (pc := 40) (tgt := 804) cx (17 : Int32) rfl dL_law_40 (by decide) (by decide) rfl (by decide) (lw_shot hl cx xx hX hb hA hL hi hB hc hs go1 jf g qe xim xtr tt rd pa im tr al pr df mm h hx)
  · exact r_tin (pc := 40) (tgt := 865) cx (18 : Int32) rfl dL_law_40 (by decide) (by decide) rfl (by decide) (lw_matters hl cx xx hX hb hA hL hi hB hc hs go1 jf g qe xim xtr tt rd pa im tr al pr df mm h hx)
  · exact r_tin (pc := 40) (tgt := 890) cx (19 : Int32) rfl dL_law_40 (by decide) (by decide) rfl (by decide) (lw_longBy hl cx xx hX hb hA hL hi hB hc hs go1 jf g qe xim xtr tt rd pa im tr al pr df mm h hx)
  · exact r_tin (pc := 40) (tgt := 915) cx (20 : Int32) rfl dL_law_40 (by decide) (by decide) rfl (by decide) (lw_longWith hl cx xx hX hb hA hL hi hB hc hs go1 jf g qe xim xtr tt rd pa im tr al pr df mm h hx)
  · exact r_tin (pc := 40) (tgt := 952) cx (21 : Int32) rfl dL_law_40 (by decide) (by decide) rfl (by decide) (lw_need hl cx xx hX hb hA hL hi hB hc hs go1 jf g qe xim xtr tt rd pa im tr al pr df mm h hx)
  · exact r_tin (pc := 40) (tgt := 977) cx (22 : Int32) rfl dL_law_40 (by decide) (by decide) rfl (by decide) (lw_bestSpan hl cx xx hX hb hA hL hi hB hc hs go1 jf g qe xim xtr tt rd pa im tr al pr df mm h hx)
  · exact r_tin (pc := 40) (tgt := 1002) cx (23 : Int32) rfl dL_law_40 (by decide) (by decide) rfl (by decide) (lw_slowest hl cx xx hX hb hA hL hi hB hc hs go1 jf g qe xim xtr tt rd pa im tr al pr df mm h hx)
  · exact r_tin (pc := 40) (tgt := 1027) cx (24 : Int32) rfl dL_law_40 (by decide) (by decide) rfl (by decide) (lw_stick hl cx xx hX hb hA hL hi hB hc hs go1 jf g qe xim xtr tt rd pa im tr al pr df mm h hx)
  · exact r_tin (pc := 40) (tgt := 1104) cx (25 : Int32) rfl dL_law_40 (by decide) (by decide) rfl (by decide) (lw_loose hl cx xx hX hb hA hL hi hB hc hs go1 jf g qe xim xtr tt rd pa im tr al pr df mm h hx)
  · exact r_tin (pc := 40) (tgt := 1117) cx (26 : Int32) rfl dL_law_40 (by decide) (by decide) rfl (by decide) (lw_strays hl cx xx hX hb hA hL hi hB hc hs go1 jf g qe xim xtr tt rd pa im tr al pr df mm h hx)
  · exact r_tin (pc := 40) (tgt := 1142) cx (27 : Int32) rfl dL_law_40 (by decide) (by decide) rfl (by decide) (lw_mean hl cx xx hX hb hA hL hi hB hc hs go1 jf g qe xim xtr tt rd pa im tr al pr df mm h hx)
  · exact r_tin (pc := 40) (tgt := 1155) cx (28 : Int32) rfl dL_law_40 (by decide) (by decide) rfl (by decide) (lw_left hl cx xx hX hb hA hL hi hB hc hs go1 jf g qe xim xtr tt rd pa im tr al pr df mm h hx)
  · exact r_tin (pc := 40) (tgt := 1192) cx (29 : Int32) rfl dL_law_40 (by decide) (by decide) rfl (by decide) (lw_takes hl cx xx hX hb hA hL hi hB hc hs go1 jf g qe xim xtr tt rd pa im tr al pr df mm h hx)
  · exact r_tin (pc := 40) (tgt := 1205) cx (30 : Int32) rfl dL_law_40 (by decide) (by decide) rfl (by decide) (lw_chance hl cx xx hX hb hA hL hi hB hc hs go1 jf g qe xim xtr tt rd pa im tr al pr df mm h hx)
  · exact r_tin (pc := 40) (tgt := 1254) cx (31 : Int32) rfl dL_law_40 (by decide) (by decide) rfl (by decide) (lw_keep hl cx xx hX hb hA hL hi hB hc hs go1 jf g qe xim xtr tt rd pa im tr al pr df mm h hx)
  · exact r_tin (pc := 40) (tgt := 1267) cx (32 : Int32) rfl dL_law_40 (by decide) (by decide) rfl (by decide) (lw_back hl cx xx hX hb hA hL hi hB hc hs go1 jf g qe xim xtr tt rd pa im tr al pr df mm h hx)
  · exact r_tin (pc := 40) (tgt := 1280) cx (33 : Int32) rfl dL_law_40 (by decide) (by decide) rfl (by decide) (lw_count hl cx xx hX hb hA hL hi hB hc hs go1 jf g qe xim xtr tt rd pa im tr al pr df mm h hx)
  · refine r_tout (pc := 40) (tgt := 1305) cx dL_law_40 (Or.inr (by rw [nn_int (by omega)]; omega)) (by decide) ?_
    exact r_up (Nat.le_add_right _ _) (Nat.le_add_right _ _) (go1 jf g qe xim xtr tt rd pa im tr al pr df mm (RTT_mono h (by omega)) hx)
theorem lw_end {p : Program} {l : Launch} {e : Env} {s : State} {m : MethodId} {below : List Frame} {meth : Method} {c : Code} {D : va_G} {K : Nat → ClassId} {A : Nat → Prop} {la b L : Nat} {xs : Nat → Int32} {qo qr q qi qt qa qm : Nat → Nat} (hl : l.stackTraces = false) (xx : XX K A s s.heap) (hX : va_X b L xs s s.heap) (hb : b < s.heap.size) (hA : ∀ q, A q → s.heap.size ≤ q) (hL : L ≤ 3072) {B i cells slots : Nat} (hi : L < i + 6) (hi2 : i ≤ 3072) (hc : cells ≤ 1192) (hs : slots ≤ 16708) (cx : Cx p room_1 s m #[Value.ref b] meth c D K A RL cL_law 7 ret cells slots) : GoOn p l e s m #[Value.ref b] below meth c D K A (lw_Z below #[Value.ref b] s) la b qo qr q qi qt qa qm B i cells slots 23 := by
  intro jf g qe xim xtr tt rd pa im tr al pr df mm h hx
  refine r_iload (pc := 23) cx dL_law_23 0 rfl ?_
  refine r_aload_n (pc := 25) cx dL_law_25 4 rfl ?_
  refine r_slen (pc := 26) cx hX hb hA (show Int32.ofNat L = NN L from rfl) dL_law_26 ?_
  refine r_bipush (pc := 27) cx dL_law_27 (show (Int8.ofInt 6).toInt32 = NN 6 by decide) ?_
  refine r_isub (pc := 29) cx dL_law_29 ?_
  refine r_icmp_gt (pc := 30) (tgt := 1311) cx dL_law_30 (by decide) (fun _ => ?_) (fun z => ?_)
  · exact lw_exit hl xx hX hb hA hL hc hs cx jf g qe xim xtr tt rd pa im tr al pr df mm h hx
  · exfalso
    refine z ?_
    have e1 : (NN L - NN 6).toInt = (L : Int) - 6 := ii_sub (nn_int (by omega)) (nn_int (by omega)) (by omega) (by omega)
    rw [Int32.lt_iff_toInt_lt, e1, nn_int (by omega)]
    omega
theorem lw_loop {p : Program} {l : Launch} {e : Env} {s : State} {m : MethodId} {below : List Frame} {meth : Method} {c : Code} {D : va_G} {K : Nat → ClassId} {A : Nat → Prop} {la b L : Nat} {xs : Nat → Int32} {qo qr q qi qt qa qm : Nat → Nat} (hl : l.stackTraces = false) (xx : XX K A s s.heap) (hX : va_X b L xs s s.heap) (hb : b < s.heap.size) (hA : ∀ q, A q → s.heap.size ≤ q) (hL : L ≤ 3072) : ∀ (k : Nat) {B i cells slots : Nat}, L < i + 6 * k + 6 → i ≤ 3072 → B + 300 * k < 800000 → cells + k ≤ 1192 → slots + 6 * k ≤ 16708 → Cx p room_1 s m #[Value.ref b] meth c D K A RL cL_law 7 ret cells slots → GoOn p l e s m #[Value.ref b] below meth c D K A (lw_Z below #[Value.ref b] s) la b qo qr q qi qt qa qm B i cells slots 23
  | 0, B, i, cells, slots, h1, h2, _, h4, h5, cx => lw_end hl xx hX hb hA hL (by omega) h2 (by omega) (by omega) cx
  | k + 1, B, i, cells, slots, h1, h2, h3, h4, h5, cx => by
    by_cases z : L < i + 6
    · exact lw_end hl xx hX hb hA hL z h2 (by omega) (by omega) cx
    · have hc : cells + 1 ≤ room_1.cells := by show cells + 1 ≤ 1192; omega
      have hs : slots + 6 ≤ room_1.slots := by show slots + 6 ≤ 16708; omega
      exact lw_step hl xx hX hb hA hL (by omega) (by omega) hc hs cx (lw_loop hl xx hX hb hA hL k (by omega) (by omega) (by omega) (by omega) (by omega) (cx.up hc hs))
