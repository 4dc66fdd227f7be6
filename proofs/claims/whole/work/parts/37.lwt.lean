/-! text and thread -/
theorem lwl_26 : Cond.methodLink RL 26 yX9_text ∈ WALL := wall_of (by decide +kernel)
theorem lwl_30 : Cond.methodLink RL 30 yX10_text ∈ WALL := wall_of (by decide +kernel)
theorem lwl_53 : Cond.methodLink RL 53 yX10_thread ∈ WALL := wall_of (by decide +kernel)
theorem lwl_54 : Cond.methodLink RL 54 yX10_thrown ∈ WALL := wall_of (by decide +kernel)
theorem lw_text {p : Program} {l : Launch} {e : Env} {s : State} {m : MethodId} {args : Array Value} {below : List Frame} {meth : Method} {c : Code} {D : va_G} {K : Nat → ClassId} {A : Nat → Prop} {ret : Option FieldType} {cells slots : Nat} {Q : State → Prop} {la b L : Nat} {xs : Nat → Int32} {qo qr q qi qt qa qm : Nat → Nat} {B i : Nat} (hl : l.stackTraces = false) (cx : Cx p room_1 s m args meth c D K A RL cL_law 7 ret cells slots) (xx : XX K A s s.heap) (hX : va_X b L xs s s.heap) (hb : b < s.heap.size) (hA : ∀ q, A q → s.heap.size ≤ q) (hL : L ≤ 3072) (hi : i + 5 < L) (hB : B < 800000) (hc : cells + 1 ≤ room_1.cells) (hs : slots + 6 ≤ room_1.slots)
    (go : GoOn p l e s m args below meth c D K A Q la b qo qr q qi qt qa qm (B + 300) i (cells + 1) (slots + 6) 1305) : GoOn p l e s m args below meth c D K A Q la b qo qr q qi qt qa qm B i cells slots 265 := by
  intro jf g qe xim xtr tt rd pa im tr al pr df mm h hx

  refine r_aload_n (pc := 265) cx dL_law_265 3 rfl ?_
  refine r_arg (pc := 266) cx hX hb hA i 1 (show Int32.ofInt 1 = NN 1 by decide) (by omega) hL 0 4 rfl rfl dL_law_266 dL_law_267 dL_law_269 dL_law_270 dL_law_271 ?_
  rcases o_text h g qe (g 0) df (xs (i + 1)) with ⟨r, rd', df', m', e1, e2, hR⟩ | ⟨r, rd', pa', pr', m', e1, e2, hR⟩
  · refine r_blk (pc := 272) cx (F := LB K la qo qr q qi qt qa qm jf g qe xim xtr tt rd pa im tr al pr df mm) (F' := LB K la qo qr q qi qt qa qm jf g qe xim xtr tt rd' pa im tr al pr df' mm) [1, 2, 3, 7, 8] [0, 4, 5, 6, 9] [.int (xs (i + 1))] [] (m_TT_text l D K qo (qi 0) (qt 0) (qa 0) tt qr rd q (g 0) pa g pr qe df (xs (i + 1)) e1) (by decide) (fl_5 _ 1 2 3 7 8) (fl_5 _ 1 2 3 7 8) rfl rfl yv_X9_text lwl_26 ⟨rfl, rfl⟩ (by decide) rfl rfl rfl (Nat.le_of_ble_eq_true rfl) dL_law_272 ?_
    refine r_aload_n (pc := 275) cx dL_law_275 2 rfl ?_
    refine r_arg (pc := 276) cx hX hb hA i 1 (show Int32.ofInt 1 = NN 1 by decide) (by omega) hL 0 4 rfl rfl dL_law_276 dL_law_277 dL_law_279 dL_law_280 dL_law_281 ?_
    refine r_blk (pc := 282) cx (F := LB K la qo qr q qi qt qa qm jf g qe xim xtr tt rd' pa im tr al pr df' mm) (F' := LB K la qo qr q qi qt qa qm jf g qe xim xtr tt rd' pa im tr al pr df' m') [9] [0, 1, 2, 3, 4, 5, 6, 7, 8] [.int (xs (i + 1))] [.int r] (m_M_text l D K qm mm (xs (i + 1)) e2) (by decide) (fl_1 _ 9) (fl_1 _ 9) rfl rfl yv_X10_text lwl_30 ⟨rfl, rfl⟩ (by decide) rfl rfl rfl (Nat.le_of_ble_eq_true rfl) dL_law_282 ?_
    exact r_icmp_eq (pc := 285) (tgt := 1305) cx dL_law_285 (by decide) (fun _ => r_up (Nat.le_add_right _ _) (Nat.le_add_right _ _) (go jf g qe xim xtr tt rd' pa im tr al pr df' m' (RTT_mono hR (by omega)) hx)) (fun z => absurd rfl z)
  · refine r_blk (pc := 272) cx (F := LB K la qo qr q qi qt qa qm jf g qe xim xtr tt rd pa im tr al pr df mm) (F' := (fun k => match k with | 7 => cl_Pg K g pr | 8 => cl_Pg K qe pr' | k => LB K la qo qr q qi qt qa qm jf qe g xim xtr (NN 0) rd' pa' im tr al pr' pr mm k)) [1, 2, 3, 7, 8] [0, 4, 5, 6, 9] [.int (xs (i + 1))] [] (m_TT_text l D K qo (qi 0) (qt 0) (qa 0) tt qr rd q (g 0) pa g pr qe df (xs (i + 1)) e1) (by decide) (fl_5 _ 1 2 3 7 8) (fl_5 _ 1 2 3 7 8) rfl rfl yv_X9_text lwl_26 ⟨rfl, rfl⟩ (by decide) rfl rfl rfl (Nat.le_of_ble_eq_true rfl) dL_law_272 ?_
    refine r_perm (ws2 := fl (LB K la qo qr q qi qt qa qm jf qe g xim xtr (NN 0) rd' pa' im tr al pr' pr mm) b10) (fl_perm (is := [0, 1, 2, 3, 4, 5, 6, 8, 7, 9]) (LB K la qo qr q qi qt qa qm jf qe g xim xtr (NN 0) rd' pa' im tr al pr' pr mm) (by decide)) ?_
    refine r_aload_n (pc := 275) cx dL_law_275 2 rfl ?_
    refine r_arg (pc := 276) cx hX hb hA i 1 (show Int32.ofInt 1 = NN 1 by decide) (by omega) hL 0 4 rfl rfl dL_law_276 dL_law_277 dL_law_279 dL_law_280 dL_law_281 ?_
    refine r_blk (pc := 282) cx (F := LB K la qo qr q qi qt qa qm jf qe g xim xtr (NN 0) rd' pa' im tr al pr' pr mm) (F' := LB K la qo qr q qi qt qa qm jf qe g xim xtr (NN 0) rd' pa' im tr al pr' pr m') [9] [0, 1, 2, 3, 4, 5, 6, 7, 8] [.int (xs (i + 1))] [.int r] (m_M_text l D K qm mm (xs (i + 1)) e2) (by decide) (fl_1 _ 9) (fl_1 _ 9) rfl rfl yv_X10_text lwl_30 ⟨rfl, rfl⟩ (by decide) rfl rfl rfl (Nat.le_of_ble_eq_true rfl) dL_law_282 ?_
    exact r_icmp_eq (pc := 285) (tgt := 1305) cx dL_law_285 (by decide) (fun _ => r_up (Nat.le_add_right _ _) (Nat.le_add_right _ _) (go jf qe g xim xtr (NN 0) rd' pa' im tr al pr' pr m' (RTT_mono hR (by omega)) (Or.inl rfl))) (fun z => absurd rfl z)
theorem RTT_mX {B : Nat} {tt : T_TT} {rd : T_Rd} {pa im : T_Pa} {al : T_Al} {pr : T_Pg} {m : T_M} (h : RTT B tt rd pa im al pr m) (x : Int32) : RTT B tt rd pa im al pr (mX m x) := by
  obtain ⟨h1, h2, h3, h4, h5, h6, h7⟩ := h
  have h3' : RAs (mX m x) := h3
  exact ⟨h1, RCf_same h2 rfl, h3', RDR_same h4 rfl rfl, h5, h6, IMG_keep h7 (Nat.le_refl _) h3 h3' rfl rfl⟩
theorem isHalted01 {st : T_St} {pr : T_Pg} {r : Int32} (h : f_St_isHalted st pr = some r) : r = 0 ∨ r = 1 := by
  unfold f_St_isHalted at h
  repeat' split at h
  all_goals first | exact Or.inl (Option.some.inj h).symm | exact Or.inr (Option.some.inj h).symm | exact nomatch h
theorem tt_thread {tt : T_TT} {pa : T_Pa} {pr : T_Pg} {w k : Nat} {r : Int32} (hw : w < 2) (hk : k < 4) (h : gThread pa pr w k = some r) : f_TT_thread tt pa pr (NN w) (NN k) = some r := by
  have a0 : ¬ NN w < (0 : Int32) := by rw [Int32.lt_iff_toInt_lt, nn_int (by omega), show (0 : Int32).toInt = 0 from rfl]; omega
  have a1 : NN w ≤ (1 : Int32) := by rw [Int32.le_iff_toInt_le, nn_int (by omega), show (1 : Int32).toInt = 1 from rfl]; omega
  unfold f_TT_thread
  refine s_neg a0 (s_pos a1 ?_)
  have n10 : ¬ NN 1 = (0 : Int32) := by decide
  have n01 : ¬ NN 0 = (1 : Int32) := by decide
  have n20 : ¬ NN 2 = (0 : Int32) := by decide
  have n21 : ¬ NN 2 = (1 : Int32) := by decide
  have n30 : ¬ NN 3 = (0 : Int32) := by decide
  have n31 : ¬ NN 3 = (1 : Int32) := by decide
  have n32 : ¬ NN 3 = (2 : Int32) := by decide
  have halt : ∀ {st : T_St}, f_St_isHalted st pr = some r → bd (f_St_isHalted st pr) (fun (x : Int32) => if x = (0 : Int32) then some (0 : Int32) else some (1 : Int32)) = some r := by
    intro st hh
    rw [hh]
    rcases isHalted01 hh with rfl | rfl <;> rfl
  have idb : ∀ {o : Option Int32}, o = some r → bd o (fun x => some x) = some r := fun ho => by rw [ho]; rfl
  rcases (show w = 0 ∨ w = 1 by omega) with rfl | rfl <;> rcases (show k = 0 ∨ k = 1 ∨ k = 2 ∨ k = 3 by omega) with rfl | rfl | rfl | rfl
  · exact s_pos rfl (s_pos rfl h)
  · exact s_pos rfl (s_neg n10 (s_pos rfl h))
  · exact s_pos rfl (s_neg n20 (s_neg n21 (s_pos rfl (halt h))))
  · exact s_pos rfl (s_neg n30 (s_neg n31 (s_neg n32 (s_pos rfl (s_pos rfl (idb h))))))
  · exact s_neg n10 (s_pos rfl h)
  · exact s_neg n10 (s_neg n10 (s_pos rfl h))
  · exact s_neg n10 (s_neg n20 (s_neg n21 (s_pos rfl (halt h))))
  · exact s_neg n10 (s_neg n30 (s_neg n31 (s_neg n32 (s_pos rfl (s_neg n10 (idb h))))))
theorem lw_thread {p : Program} {l : Launch} {e : Env} {s : State} {m : MethodId} {args : Array Value} {below : List Frame} {meth : Method} {c : Code} {D : va_G} {K : Nat → ClassId} {A : Nat → Prop} {ret : Option FieldType} {cells slots : Nat} {Q : State → Prop} {la b L : Nat} {xs : Nat → Int32} {qo qr q qi qt qa qm : Nat → Nat} {B i : Nat} (hl : l.stackTraces = false) (cx : Cx p room_1 s m args meth c D K A RL cL_law 7 ret cells slots) (xx : XX K A s s.heap) (hX : va_X b L xs s s.heap) (hb : b < s.heap.size) (hA : ∀ q, A q → s.heap.size ≤ q) (hL : L ≤ 3072) (hi : i + 5 < L) (hB : B < 800000) (hc : cells + 1 ≤ room_1.cells) (hs : slots + 6 ≤ room_1.slots)
    (go : GoOn p l e s m args below meth c D K A Q la b qo qr q qi qt qa qm (B + 300) i (cells + 1) (slots + 6) 1305) : GoOn p l e s m args below meth c D K A Q la b qo qr q qi qt qa qm B i cells slots 414 := by
  intro jf g qe xim xtr tt rd pa im tr al pr df mm h hx

  -- what the law's own thread answers, and what the model says
  have call : ∃ r5 jf' r6 th, MT l rm_lth D K [.ref (qo 0), .int (xs (i + 1)), .int (xs (i + 2)), .ref la] (fl (lthF K la jf (cl_TT K qo (qr 0) (q 0) (qi 0) (qt 0) (qa 0) (g 0) (qe 0) tt) (cl_Pa K q (g 0) pa) (cl_Pg K g pr)) [0, 1, 2, 3]) r5 (fl (lthF K la jf' (cl_TT K qo (qr 0) (q 0) (qi 0) (qt 0) (qa 0) (g 0) (qe 0) tt) (cl_Pa K q (g 0) pa) (cl_Pg K g pr)) [0, 1, 2, 3])
      ∧ f_M_thread mm (xs (i + 1)) (xs (i + 2)) = some (r6, mX mm th) ∧ th = r5 ∧ (r5 = 0 → jf' 0 = r6.toInt64) := by
    rcases q_thread h.1 (xs (i + 1)) (xs (i + 2)) with ⟨h1, h2⟩ | ⟨w, hw, h1, h2, h3⟩ | ⟨w, k, r, hw, hk, h1, h2, h3, h4⟩
    · refine ⟨1, jf, 0, 1, ?_, h2, rfl, fun z => absurd z (by decide)⟩
      refine lth_throw l hl D K la jf true _ _ rfl (mx_TT_threadE l hl D K _ _ _ _ ?_)
      rcases h1 with h1 | ⟨h1, -⟩
      · exact Or.inl h1
      · refine Or.inr fun z => ?_
        rw [Int32.le_iff_toInt_le] at h1 z
        have e1 : (NN 2).toInt = 2 := rfl
        have e2 : (1 : Int32).toInt = 1 := rfl
        omega
    · refine ⟨2, jf, 0, 2, ?_, h3, rfl, fun z => absurd z (by decide)⟩
      refine lth_throw l hl D K la jf false _ _ rfl (mx_TT_threadN l hl D K qo (qr 0) (qi 0) (qt 0) (qa 0) (qe 0) tt q pa g pr _ _ ?_ ?_ ?_)
      · rw [h1, Int32.lt_iff_toInt_lt, nn_int (by omega), show (0 : Int32).toInt = 0 from rfl]; omega
      · rw [h1, Int32.le_iff_toInt_le, nn_int (by omega), show (1 : Int32).toInt = 1 from rfl]; omega
      · rcases h2 with h2 | ⟨h2, -⟩
        · rw [Int32.lt_iff_toInt_lt] at h2
          have e1 : (NN 0).toInt = 0 := rfl
          omega
        · rw [Int32.le_iff_toInt_le] at h2
          have e1 : (NN 4).toInt = 4 := rfl
          omega
    · refine ⟨0, vp_updL jf 0 r.toInt64, r, 0, ?_, h4, rfl, fun _ => rfl⟩
      refine lth_ok l D K la jf _ _ r rfl ?_
      rw [h1, h2]
      exact m_TT_thread l D K qo (qr 0) (qi 0) (qt 0) (qa 0) (qe 0) tt q pa g pr _ _ (tt_thread hw hk h3)
  obtain ⟨r5, jf', r6, th, hT, e2, rfl, hj⟩ := call
  refine r_aload_n (pc := 414) cx dL_law_414 3 rfl ?_
  refine r_arg (pc := 415) cx hX hb hA i 1 (show Int32.ofInt 1 = NN 1 by decide) (by omega) hL 0 4 rfl rfl dL_law_415 dL_law_416 dL_law_418 dL_law_419 dL_law_420 ?_
  refine r_arg (pc := 421) cx hX hb hA i 2 (show Int32.ofInt 2 = NN 2 by decide) (by omega) hL 0 4 rfl rfl dL_law_421 dL_law_422 dL_law_424 dL_law_425 dL_law_426 ?_
  refine r_aload_n (pc := 427) cx dL_law_427 1 rfl ?_
  refine r_ST (pc := 428) cx xx (F := LB K la qo qr q qi qt qa qm jf g qe xim xtr tt rd pa im tr al pr df mm) (F' := LB K la qo qr q qi qt qa qm jf' g qe xim xtr tt rd pa im tr al pr df mm) [0, 1, 3, 7] [2, 4, 5, 6, 8, 9] [.ref (qo 0), .int (xs (i + 1)), .int (xs (i + 2)), .ref la] [] rfl hT (by decide) ((fl_4 _ 0 1 3 7).trans (fl_4 (lthF K la jf (cl_TT K qo (qr 0) (q 0) (qi 0) (qt 0) (qa 0) (g 0) (qe 0) tt) (cl_Pa K q (g 0) pa) (cl_Pg K g pr)) 0 1 2 3).symm) ((fl_4 _ 0 1 3 7).trans (fl_4 (lthF K la jf' (cl_TT K qo (qr 0) (q 0) (qi 0) (qt 0) (qa 0) (g 0) (qe 0) tt) (cl_Pa K q (g 0) pa) (cl_Pg K g pr)) 0 1 2 3).symm) rfl rfl (by decide) rfl (Nat.le_of_ble_eq_true rfl) dL_law_428 hc hs ?_
  replace cx := cx.up hc hs
  refine r_istore (pc := 431) (loc' := [(5, .int th), (4, .int (NN i)), (3, .ref la), (2, .ref (qm 0)), (1, .ref (qo 0)), (0, .ref b)]) cx dL_law_431 (by decide) rfl ?_
  refine r_aload_n (pc := 433) cx dL_law_433 3 rfl ?_
  refine r_arg (pc := 434) cx hX hb hA i 1 (show Int32.ofInt 1 = NN 1 by decide) (by omega) hL 1 5 rfl rfl dL_law_434 dL_law_435 dL_law_437 dL_law_438 dL_law_439 ?_
  refine r_arg (pc := 440) cx hX hb hA i 2 (show Int32.ofInt 2 = NN 2 by decide) (by omega) hL 1 5 rfl rfl dL_law_440 dL_law_441 dL_law_443 dL_law_444 dL_law_445 ?_
  refine r_blk (pc := 446) cx (F := LB K la qo qr q qi qt qa qm jf' g qe xim xtr tt rd pa im tr al pr df mm) (F' := LB K la qo qr q qi qt qa qm jf' g qe xim xtr tt rd pa im tr al pr df (mX mm th)) [9] [0, 1, 2, 3, 4, 5, 6, 7, 8] [.int (xs (i + 1)), .int (xs (i + 2))] [] (m_M_thread l D K qm mm (xs (i + 1)) (xs (i + 2)) e2) (by decide) (fl_1 _ 9) (fl_1 _ 9) rfl rfl yv_X10_thread lwl_53 ⟨rfl, rfl⟩ (by decide) rfl rfl rfl (Nat.le_of_ble_eq_true rfl) dL_law_446 ?_
  refine r_istore (pc := 449) (loc' := [(6, .int r6), (5, .int th), (4, .int (NN i)), (3, .ref la), (2, .ref (qm 0)), (1, .ref (qo 0)), (0, .ref b)]) cx dL_law_449 (by decide) rfl ?_
  refine r_aload_n (pc := 451) cx dL_law_451 4 rfl ?_
  refine r_blk (pc := 452) cx (F := LB K la qo qr q qi qt qa qm jf' g qe xim xtr tt rd pa im tr al pr df (mX mm th)) (F' := LB K la qo qr q qi qt qa qm jf' g qe xim xtr tt rd pa im tr al pr df (mX mm th)) [9] [0, 1, 2, 3, 4, 5, 6, 7, 8] [] [] (m_M_thrown l D K qm (mX mm th) (show f_M_thrown (mX mm th) = some th from rfl)) (by decide) (fl_1 _ 9) (fl_1 _ 9) rfl rfl yv_X10_thrown lwl_54 ⟨rfl, rfl⟩ (by decide) rfl rfl rfl (Nat.le_of_ble_eq_true rfl) dL_law_452 ?_
  refine r_iload (pc := 455) cx dL_law_455 1 rfl ?_
  refine r_icmp_eq (pc := 457) (tgt := 462) cx dL_law_457 (by decide) (fun _ => ?_) (fun z => absurd rfl z)
  refine r_iload (pc := 462) cx dL_law_462 1 rfl ?_
  refine r_if_ne (pc := 464) (tgt := 479) cx dL_law_464 (by decide) (fun _ => (r_goto (pc := 479) (tgt := 1305) cx dL_law_479 (by decide) (r_locs (loc2 := locL la b qo qm i) (fun z hz => List.mem_cons_of_mem _ (List.mem_cons_of_mem _ hz)) (go jf' g qe xim xtr tt rd pa im tr al pr df (mX mm th) (RTT_mono (RTT_mX h th) (by omega)) hx)))) (fun z => ?_)
  have z0 : th = 0 := by first | exact z | exact Decidable.of_not_not z
  refine r_aload_n (pc := 467) cx dL_law_467 3 rfl ?_
  refine r_iconst (pc := 468) cx dL_law_468 ic_0 ?_
  refine r_lald (pc := 469) cx 0 rfl (by decide) dL_law_469 ?_
  refine r_iload (pc := 470) cx dL_law_470 0 rfl ?_
  refine r_i2l (pc := 472) cx dL_law_472 ?_
  refine r_lcmp (pc := 473) cx dL_law_473 ?_
  refine r_if_eq (pc := 474) (tgt := 479) cx dL_law_474 (by decide) (fun _ => (r_goto (pc := 479) (tgt := 1305) cx dL_law_479 (by decide) (r_locs (loc2 := locL la b qo qm i) (fun z hz => List.mem_cons_of_mem _ (List.mem_cons_of_mem _ hz)) (go jf' g qe xim xtr tt rd pa im tr al pr df (mX mm th) (RTT_mono (RTT_mX h th) (by omega)) hx)))) (fun z2 => ?_)
  exact (z2 (by rw [show (0 : Int32).toNatClampNeg = 0 from rfl, hj z0]; unfold lg_cmp; rw [if_neg (by rw [gt_iff_lt, Int64.lt_iff_toInt_lt]; omega), if_pos rfl])).elim
