/-! TwinThreads.thread: the two throws -/
abbrev rm_thx : Room := { frames := 9, cells := 1, slots := 6, locals := 140 }
section MYTHY
variable {p : Program} {l : Launch} {e : Env} {s : State} {m : MethodId} {args : Array Value} {below : List Frame} {meth : Method} {c : Code} {D : va_G} {K : Nat → ClassId} {A : Nat → Prop} {nL : Nat} {ret : Option FieldType} {ws : va_W} {loc : List (Nat × Value)} {Qc : Array Value → State → Outcome → State → Prop}
theorem qx_of (cx : Cx p rm_thx s m args meth c D K A "TwinThreads" cX9_thread nL ret 0 0) {E : String} {H : Heap} {locs : List Loc} (hP : va_P D vwCl ws H) (hD : va_D A ws) (hS : va_S A s.heap H locs) :
    ∀ t : State, s.vm.Alike t.vm → H.size ≤ t.heap.size → (∀ q : Nat, q < H.size → t.heap[q]? = H[q]?) → QX D K A E ws E s t := fun t hvm hz hk =>
  ⟨ws, rfl, ⟨rfl, fun k q hq => (hP k q hq).kept (hk q.1 (hP k q hq).lt), va_K.moved hvm cx.2.2.2.2.2.2.2.1, hD⟩, Nat.le_trans hS.1 hz, fun q h1 h2 => by rw [hk q (Nat.lt_of_lt_of_le h1 hS.1)]; exact hS.2.1 q h1 h2⟩
theorem r_thE (cx : Cx p rm_thx s m args meth c D K A "TwinThreads" cX9_thread nL ret 0 0) (hl : l.stackTraces = false) (xx : XX K A s s.heap) (hx : ∀ x ∈ c.exceptionTable.toList, False) :
    WW p l e rm_thx s m args below meth c D A nL 0 0 (vx_MQ below Qc (QX D K A "java/lang/IndexOutOfBoundsException" ws) args s 1 6 A) ws loc [] 9 := fun H locs ls hP hD hS hls =>
  vx_throwS cx.1 cx.2.1 hl (own := "TwinThreads") (cls := "java/lang/IndexOutOfBoundsException") (text := "no such thread") (names := nm2) (ik := 92) (is := 94) (ic := 96) (sa := K 30) (A := A) cx.2.2.2.1 (by decide +kernel) (by decide +kernel)
    (cx.2.2.2.2.1 _ (th_link (by simp))) (cx.2.2.2.2.1 _ (th_link (by simp))) xx.2.1
    (vx_hat (fun w hw => cx.2.2.2.2.1 _ (wall_all thE_good w hw)) (xbl_all thE_bad) (fun w hw => va_Nw.use (xbl_onTables hw) (xx.1 w hw)))
    (fun w hw => List.all_eq_true.mp thE_ot w hw) xx.2.2.2.1 xx.2.2.2.2.1 hS (hls.1.trans cx.2.2.1.symm) dX9_thread_9 dX9_thread_12 dX9_thread_13 dX9_thread_15 dX9_thread_18
    (fun x h => (hx x h).elim) (by decide) (by decide) (by decide) (by decide) cx.2.2.2.2.2.2.1 (qx_of cx hP hD hS) hS.2.2 (by decide) (by decide)
theorem r_thN (cx : Cx p rm_thx s m args meth c D K A "TwinThreads" cX9_thread nL ret 0 0) (hl : l.stackTraces = false) (xx : XX K A s s.heap) (hx : ∀ x ∈ c.exceptionTable.toList, False) :
    WW p l e rm_thx s m args below meth c D A nL 0 0 (vx_MQ below Qc (QX D K A "java/util/NoSuchElementException" ws) args s 1 6 A) ws loc [] 109 := fun H locs ls hP hD hS hls =>
  xn_throwS cx.1 cx.2.1 hl (own := "TwinThreads") (cls := "java/util/NoSuchElementException") (Y0 := "java/lang/RuntimeException") (text := "no such what") (names := ["java/lang/Exception"]) (ik := 121) (is := 123) (ic := 125) (sa := K 31) (idx := 13) (bytes := sxB) (A := A) cx.2.2.2.1 (by decide +kernel) (by decide +kernel) (by decide +kernel)
    (by decide +kernel) (by decide +kernel) (by decide +kernel) (by decide +kernel)
    (cx.2.2.2.2.1 _ (th_link (by simp))) (cx.2.2.2.2.1 _ (th_link (by simp))) xx.2.2.1
    (vx_hat (fun w hw => cx.2.2.2.2.1 _ (wall_all thN_good w hw)) (xbl_all thN_bad) (fun w hw => va_Nw.use (xbl_onTables hw) (xx.1 w hw)))
    (fun w hw => List.all_eq_true.mp thN_ot w hw) xx.2.2.2.1 xx.2.2.2.2.1 hS (hls.1.trans cx.2.2.1.symm) dX9_thread_109 dX9_thread_112 dX9_thread_113 dX9_thread_115 dX9_thread_118
    (fun x h => (hx x h).elim) (by decide) (by decide) (by decide) (by decide) cx.2.2.2.2.2.2.1 (qx_of cx hP hD hS) hS.2.2 (by decide) (by decide)
end MYTHY
theorem mx_TT_threadE (l : Launch) (hl : l.stackTraces = false) (D : va_G) (K : Nat → ClassId) (ws : va_W) (b0 : Nat) (a1 a2 : Int32) (h : a1 < 0 ∨ ¬ a1 ≤ 1) : MX l yX9_thread cX9_thread 4 (some .int) rm_thx D K [.ref b0, .int a1, .int a2] ws "java/lang/IndexOutOfBoundsException" := by
  refine MX_of (loc0 := [(0, .ref b0), (1, .int a1), (2, .int a2)]) (by decide +kernel) rfl (Nat.le_of_ble_eq_true rfl) ?_
  intro p e s m args below meth c A cx xx hx
  refine r_iload_n (pc := 0) cx dX9_thread_0 1 rfl ?_
  refine r_if_lt (pc := 1) (tgt := 9) cx dX9_thread_1 (by decide) (fun h1 => ?_) (fun h1 => ?_)
  · exact r_thE cx hl xx hx
  · refine r_iload_n (pc := 4) cx dX9_thread_4 1 rfl ?_
    refine r_iconst (pc := 5) cx dX9_thread_5 ic_1 ?_
    refine r_icmp_le (pc := 6) (tgt := 19) cx dX9_thread_6 (by decide) (fun h2 => ?_) (fun h2 => ?_)
    · exact (h.elim h1 (fun k => k h2)).elim
    · exact r_thE cx hl xx hx
theorem mx_TT_threadN (l : Launch) (hl : l.stackTraces = false) (D : va_G) (K : Nat → ClassId) (qo : Nat → Nat) (xtt_reader : Nat) (xtt_image : Nat) (xtt_trial : Nat) (xtt_alone : Nat) (xtt_draft : Nat) (tt : T_TT) (q : Nat → Nat) (pa : T_Pa) (g : Nat → Nat) (pr : T_Pg) (a1 a2 : Int32) (h1 : ¬ a1 < 0) (h2 : a1 ≤ 1) (h3 : a2.toInt < 0 ∨ 3 < a2.toInt) :
    MX l yX9_thread cX9_thread 4 (some .int) rm_thx D K [.ref (qo 0), .int a1, .int a2] (cl_TT K qo xtt_reader (q 0) xtt_image xtt_trial xtt_alone (g 0) xtt_draft tt ++ (cl_Pa K q (g 0) pa ++ cl_Pg K g pr)) "java/util/NoSuchElementException" := by
  obtain ⟨F, hF⟩ : ∃ F : Nat → va_W, F = fun k => match k with | 0 => cl_TT K qo xtt_reader (q 0) xtt_image xtt_trial xtt_alone (g 0) xtt_draft tt | 1 => cl_Pa K q (g 0) pa | _ => cl_Pg K g pr := ⟨_, rfl⟩
  have hw : cl_TT K qo xtt_reader (q 0) xtt_image xtt_trial xtt_alone (g 0) xtt_draft tt ++ (cl_Pa K q (g 0) pa ++ cl_Pg K g pr) = fl F [0, 1, 2] := by rw [hF]; simp [fl]
  rw [hw]
  refine MX_of (loc0 := [(0, .ref (qo 0)), (1, .int a1), (2, .int a2)]) (by decide +kernel) rfl (Nat.le_of_ble_eq_true rfl) ?_
  intro p e s m args below meth c A cx xx hx
  refine r_iload_n (pc := 0) cx dX9_thread_0 1 rfl ?_
  refine r_if_lt (pc := 1) (tgt := 9) cx dX9_thread_1 (by decide) (fun k => (h1 k).elim) (fun _ => ?_)
  refine r_iload_n (pc := 4) cx dX9_thread_4 1 rfl ?_
  refine r_iconst (pc := 5) cx dX9_thread_5 ic_1 ?_
  refine r_icmp_le (pc := 6) (tgt := 19) cx dX9_thread_6 (by decide) (fun _ => ?_) (fun k => (k h2).elim)
  refine r_aload_n (pc := 19) cx dX9_thread_19 0 rfl ?_
  refine r_get (pc := 20) cx cf_X9 0 1 (by rw [hF]; rfl) (by decide) rfl wd_576 dX9_thread_20 ?_
  refine r_iload_n (pc := 23) cx dX9_thread_23 1 rfl ?_
  have fin : ∀ a : Nat, WW p l e rm_thx s m args below meth c D A 4 0 0 (vx_MQ below (QN D K A) (QX D K A "java/util/NoSuchElementException" (fl F [0, 1, 2])) args s 1 6 A) (fl F [0, 1, 2]) [(0, .ref (qo 0)), (1, .int a1), (2, .int a2)] [.ref a] 27 := by
    intro a
    refine r_astore_n (pc := 27) (loc' := [(3, .ref a), (0, .ref (qo 0)), (1, .int a1), (2, .int a2)]) cx dX9_thread_27 rfl (by decide) rfl ?_
    refine r_iload_n (pc := 28) cx dX9_thread_28 3 rfl ?_
    refine r_tout (pc := 29) (tgt := 109) cx dX9_thread_29 h3 (by decide) ?_
    exact r_thN cx hl xx hx
  by_cases h0 : a1 = (0 : Int32)
  · refine r_blkR (pc := 24) cx (F := F) (F' := F) [1] [0, 2] [.int a1] [] (m_Pa_strand_0 l D K q (g 0) pa a1 h0) (by decide) (by rw [hF]; simp [fl]) (by rw [hF]; simp [fl]) rfl rfl yv_X3_strand wd_952 ⟨rfl, rfl⟩ (by decide) rfl rfl rfl (by decide) dX9_thread_24 (fin _)
  · refine r_blkR (pc := 24) cx (F := F) (F' := F) [1] [0, 2] [.int a1] [] (m_Pa_strand_1 l D K q (g 0) pa a1 h0) (by decide) (by rw [hF]; simp [fl]) (by rw [hF]; simp [fl]) rfl rfl yv_X3_strand wd_952 ⟨rfl, rfl⟩ (by decide) rfl rfl rfl (by decide) dX9_thread_24 (fin _)
