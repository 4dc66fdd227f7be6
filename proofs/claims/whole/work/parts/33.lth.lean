/-! the law's own thread -/
abbrev hhT : List (Nat × Nat × Nat × Nat) := [(0, 10, 13, 13), (0, 10, 17, 15)]
abbrev WdT : List Cond := .codeWith yL_thread cL_thread 5 (some .int) hhT :: WALL
def MT (l : Launch) (rm : Room) (D : va_G) (K : Nat → ClassId) (As : List Value) (ws : va_W) (r : Int32) (ws' : va_W) : Prop := ∀ sz, Met l yL_thread WdT rm (PCx D K As ws sz) (QI D K (va_A ws sz) r ws') 1 6 (va_A ws sz)
theorem MT_of {l : Launch} {rm : Room} {D : va_G} {K : Nat → ClassId} {As : List Value} {ws ws' : va_W} {r : Int32} {loc0 : List (Nat × Value)} (hl0 : lv_args 0 As = loc0) (hn : (lg_sl As).length ≤ 5)
    (h : ∀ (p : Program) (e : Env) (s : State) (m : MethodId) (args : Array Value) (below : List Frame) (meth : Method) (c : Code) (A : Nat → Prop), Cx p rm s m args meth c D K A RL cL_thread 5 (some .int) 0 0 → XX K A s s.heap → c.exceptionTable.toList = tableOf hhT → WW p l e rm s m args below meth c D A 5 0 0 (MQ below (QI D K A r ws') args s 1 6 A) ws loc0 [] 0) : MT l rm D K As ws r ws' := by
  intro sz
  refine MetFree.of_bodyS (code := cL_thread) (maxLocals := 5) (ret := some .int) (by decide +kernel) ?_ ?_
  · intro args s m h hn
    obtain ⟨m9, meth, c, hn9, h1, h2, h3, h4, -, h5, h6, -⟩ := Cond.codeWith_spec (atoms_spec (ws := WdT) h _ List.mem_cons_self)
    cases hn.symm.trans hn9
    exact ⟨meth, c, h1, h2, h3, h4, h5, h6⟩
  · intro p e s m args below meth c s₁ B hml hv _
    have hh0 : s₁.heap = s.heap := by rw [B.state]; rfl
    obtain ⟨rfl, hsz, hP, hK, hD0, hSS, hxx⟩ := hv
    have hts := atoms_spec (ws := WdT) B.pre
    have htb := vx_table (x := yL_thread) B (hts _ List.mem_cons_self)
    subst hsz
    have hD := hD0.self (sz := s.heap.size)
    have hA : ∀ q : Nat, s.heap.size ≤ q → va_A ws s.heap.size q := fun q h => Or.inr h
    generalize va_A ws s.heap.size = A at hD hA hSS hxx ⊢
    have hl := lv_entry As (n := 5) hn
    have K1 : W p l e rm s m As.toArray below meth c s.heap [] 0 0 (MQ below (QI D K A r ws') As.toArray s 1 6 A) (entryFrame m As.toArray 5) := by
      rw [lg_entry_eq]
      generalize (lg_sl As ++ List.replicate (5 - (lg_sl As).length) Slot.unset).toArray = ls at hl ⊢
      rw [hl0] at hl
      exact h p e s m _ below meth c A ⟨B.exec, B.bytes, hml, findClass_of_methodNamed B.named, fun w hw => hts w (List.mem_cons_of_mem _ hw), B.returns, B.notSynchronized, hK, hA, Nat.zero_le _, Nat.zero_le _, hSS⟩ hxx htb s.heap [] ls hP hD va_S.rf hl
    obtain ⟨t, a1, o, b1, b2, b3⟩ := K1 s₁ hh0 (Stand.of_body B)
    exact ⟨t, o, a1, b1, b2, ⟨b3.1, b3.2⟩⟩
section MYLTH
variable {p : Program} {l : Launch} {e : Env} {R : Room} {s : State} {m : MethodId} {args : Array Value} {below : List Frame} {meth : Method} {c : Code} {D : va_G} {K : Nat → ClassId} {A : Nat → Prop} {own : String} {cc : ByteArray} {nL : Nat} {ret : Option FieldType} {cells slots : Nat} {Q : State → Prop} {ws ws' : va_W} {loc : List (Nat × Value)} {st : List Value} {pc : Nat}
theorem r_iretG (cx : Cx p R s m args meth c D K A own cc nL (some .int) cells slots) {v r : Int32} (hv : v = r) (hw : ws = ws') (hd : decode cc pc = .ok (.ireturn, 1)) : WW p l e R s m args below meth c D A nL cells slots (MQ below (QI D K A r ws') args s cells slots A) ws loc [.int v] pc := fun H locs ls hP hD hS hl => by subst hv hw; exact W.iret cx.1 cx.2.1 cx.2.2.2.2.2.1 (fun t ht hW => ⟨⟨v, ws, rfl, ⟨rfl, rfl⟩, by rw [ht]; exact hP, va_K.moved hW.alike cx.2.2.2.2.2.2.2.1, hD⟩, hS.F ht⟩) hS.2.2 hd cx.2.2.2.2.2.2.1
theorem r_last (cx : Cx p R s m args meth c D K A own cc nL ret cells slots) {a n : Nat} {f f' : Nat → Int64} {i : Int32} {x : Int64} (q0 : Nat) (ha : ws[q0]? = some (a, aJ K n f)) (hin : ix i n) (hd : decode cc pc = .ok (.lastore, 1)) (hf' : f' = vp_updL f i.toNatClampNeg x) (hws : ws.set q0 (a, aJ K n f') = ws') (k : WW p l e R s m args below meth c D A nL cells slots Q ws' loc st (pc + 1)) : WW p l e R s m args below meth c D A nL cells slots Q ws loc (.long x :: .int i :: .ref a :: st) pc := fun H locs ls hP hD hS hl => by subst hf'; exact va_last (D := D) cx.1 cx.2.1 cx.2.2.2.2.2.2.2.1 hP hD hS q0 3 ha rfl hin hd (fun H1 locs1 hP hD hS => k H1 locs1 ls (hws ▸ hP) (hws ▸ hD) hS hl)
theorem r_lald (cx : Cx p R s m args meth c D K A own cc nL ret cells slots) {a n : Nat} {f : Nat → Int64} {i : Int32} (q0 : Nat) (ha : ws[q0]? = some (a, aJ K n f)) (hin : ix i n) (hd : decode cc pc = .ok (.laload, 1)) (k : WW p l e R s m args below meth c D A nL cells slots Q ws loc (.long (f i.toNatClampNeg) :: st) (pc + 1)) : WW p l e R s m args below meth c D A nL cells slots Q ws loc (.int i :: .ref a :: st) pc := fun H locs ls hP hD hS hl => va_lald (D := D) cx.1 cx.2.1 cx.2.2.2.2.2.2.2.1 hP q0 3 ha rfl hin hd (k H locs ls hP hD hS hl)
/-- a call that throws -/
theorem r_VX (cx : Cx p R s m args meth c D K A own cc nL ret cells slots) (xx : XX K A s s.heap) {y : MethodName} {b : ByteArray} {maxL : Nat} {rt : Option FieldType} {rm : Room} {wc : va_W} {E : String} {b0 : Nat} {ix : Nat} (As : List Value) (rest : List Value) {mk : List (Option Nat)} {nn : Nat} (hM : MX l y b maxL rt rm D K (.ref b0 :: As) wc E) (hy : YV y b maxL rt As.length) (hlk : Cond.methodLink own ix y ∈ WALL) (hrm : rm.cells = 1 ∧ rm.slots = 6) (hR : rm.frames + 1 ≤ R.frames ∧ 8 + (maxL + 11) + rm.locals ≤ R.locals)
    (hfr : Fr wc wc ws ws mk) (hnn : wc.length = nn) (hcov : cov mk nn = true) (q0 : Nat) {ci : Nat} {fs : List Value} {T : u_T} {N : Nat} (he : ws[q0]? = some (b0, .inr (ci, fs))) (hcl : vwCl[ci]? = some (y.cls, T, N)) (hst : st = As.reverse ++ .ref b0 :: rest) (hcat : (rest.map fun v => v.category).sum ≤ 8) (hd : decode cc pc = .ok (.invokevirtual ix, 3)) (hc : cells + 1 ≤ R.cells) (hs : slots + 6 ≤ R.slots)
    (kx : ∀ (q9 : Addr) (ce : Cell) (H1 : Heap) (locs1 : List Loc) (ls : Array Slot), va_P D vwCl ws H1 → va_D A ws → va_S A s.heap H1 locs1 → lv_has ls nL loc → H1[q9]? = some ce → ce.vm = .none → s.vm.findClass E = some ce.cls → vx_W p l e R s m args below meth c H1 locs1 (cells + 1) (slots + 6) Q (F0 m pc ls rest) q9) : WW p l e R s m args below meth c D A nL cells slots Q ws loc st pc := by
  subst hst
  intro H locs ls hP hD hS hl
  obtain ⟨hPc, hDc, hFc0, hback⟩ := fr_PD hfr hnn hcov hP hD
  have hFc := hFc0 (fun q h => cx.2.2.2.2.2.2.2.2.1 q (Nat.le_trans hS.1 h))
  refine vx_calli (vx_runV (As := As) (rest := rest) ⟨cx.1, cx.2.1, cx.2.2.1, cx.2.2.2.1, cx.2.2.2.2.1⟩ (hM H.size) ⟨callB_of As.length cx.2.2.2.2.1 (wall_in hy.2.1) rfl hrm.1 hrm.2 (cx.2.2.2.2.1 _ hy.2.2.1) (cx.2.2.2.2.1 _ hlk) hy.1 hR, cx.2.2.2.2.1 _ hy.2.2.2.1, cx.2.2.2.2.1 _ hy.2.2.2.2⟩ ⟨(fun a U g mk q => by obtain ⟨q0, q1, qP, qK, qD, qS, qX⟩ := q; exact ⟨q0, q1, qP, va_K.moved (u := U) (U := U.calling g mk a) (Vm.Alike.refl U.vm) qK, qD, SS.same (u := U) (U := U.calling g mk a) rfl qS, XX.same (u := U) (U := U.calling g mk a) rfl qX⟩), va_recv cx.2.2.2.2.2.2.2.1 hP hcl he, fun U hU hW => ⟨rfl, by rw [hU], by rw [hU]; exact hPc, va_K.moved hW.alike cx.2.2.2.2.2.2.2.1, hDc, by rw [hU]; exact (((cx.2.2.2.2.2.2.2.2.2.2.2).kept hS.2.1).narrow hFc).warm hW, by rw [hU]; exact ((xx.kept hS.2.1).narrow hFc).warm hW⟩⟩ rfl rfl hl.1 rfl (by show 2 * 0 + _ ≤ 8; omega) hd ⟨hc, hs⟩) hS (fun q _ h => hFc q h) hFc (fun q _ h => hFc q h) (fun E' ce q9 u t H1 locs1 ht hvm hu hB hz1 hk1 hS1 hq9 hcv hcls => ?_) (fun r_ u t H1 locs1 ht hvm hw hB hz1 hk1 hS1 => hw.elim)
  obtain ⟨rfl, hP1, -, -⟩ := hB
  rw [hu, ht] at hP1
  obtain ⟨hP2, hD2⟩ := hback H1 hk1 hP1
  exact kx q9 ce H1 locs1 ls hP2 hD2 hS1 hl hq9 hcv hcls
/-- caught: the exception goes on the stack of the handler -/
theorem lth_catch (cx : Cx p R s m args meth c D K A RL cL_thread 5 (some .int) cells slots) (xx : XX K A s s.heap) (htb : c.exceptionTable.toList = tableOf hhT) {q9 : Addr} {ce : Cell} {H1 : Heap} {locs1 : List Loc} {ls : Array Slot} {rest : List Value} {E : String} (w : Bool)
    (hE : E = if w then "java/lang/IndexOutOfBoundsException" else "java/util/NoSuchElementException") (hlk : Cond.classLink RL 13 "java/lang/IndexOutOfBoundsException" ∈ WALL) (hlk2 : Cond.classLink RL 15 "java/util/NoSuchElementException" ∈ WALL) (h1 : H1[q9]? = some ce) (h2 : ce.vm = .none) (h3 : s.vm.findClass E = some ce.cls)
    (k : W p l e R s m args below meth c H1 locs1 cells slots Q (F0 m (if w then 13 else 17) ls [.ref q9])) : vx_W p l e R s m args below meth c H1 locs1 cells slots Q (F0 m 5 ls rest) q9 := by
  subst hE
  cases w
  · refine vx_catch (own := RL) (name := "java/util/NoSuchElementException") cx.2.2.2.1 [⟨0, 10, 13, 13⟩] ⟨0, 10, 17, 15⟩ [] htb ?_ (by decide) (by decide) (cx.2.2.2.2.1 _ hlk2) (va_Nw.use rfl (xx.1 _ (by simp [XBL]))) h1 h2 h3 k
    intro z hz
    rcases List.mem_singleton.mp hz with rfl
    exact Or.inr ⟨by decide, _, cx.2.2.2.2.1 _ hlk, xx.2.2.2.2.2⟩
  · exact vx_catch (own := RL) (name := "java/lang/IndexOutOfBoundsException") cx.2.2.2.1 [] ⟨0, 10, 13, 13⟩ [⟨0, 10, 17, 15⟩] htb (fun z hz => nomatch hz) (by decide) (by decide) (cx.2.2.2.2.1 _ hlk) (va_Nw.use rfl (xx.1 _ (by simp [XBL]))) h1 h2 h3 k
end MYLTH
theorem wall_of {w : Cond} (h : decide (w ∈ WALL) = true) : w ∈ WALL := of_decide_eq_true h
theorem lw13 : Cond.classLink RL 13 "java/lang/IndexOutOfBoundsException" ∈ WALL := wall_of (by decide +kernel)
theorem lw15 : Cond.classLink RL 15 "java/util/NoSuchElementException" ∈ WALL := wall_of (by decide +kernel)
theorem lw7 : Cond.methodLink RL 7 yX9_thread ∈ WALL := wall_of (by decide +kernel)
abbrev rm_lth : Room := { frames := 10, cells := 1, slots := 6, locals := 240 }
def lthF (K : Nat → ClassId) (la : Nat) (jf : Nat → Int64) (W1 W2 W3 : va_W) : Nat → va_W := fun k => match k with | 0 => [(la, aJ K 1 jf)] | 1 => W1 | 2 => W2 | _ => W3
theorem lth_throw (l : Launch) (hl : l.stackTraces = false) (D : va_G) (K : Nat → ClassId) (la : Nat) (jf : Nat → Int64) (w : Bool) {W1 W2 W3 : va_W} {b0 : Nat} {fs : List Value} (a1 a2 : Int32) (he : (W1 ++ (W2 ++ W3))[0]? = some (b0, .inr (8, fs)))
    (hM : MX l yX9_thread cX9_thread 4 (some .int) rm_thx D K [.ref b0, .int a1, .int a2] (W1 ++ (W2 ++ W3)) (if w then "java/lang/IndexOutOfBoundsException" else "java/util/NoSuchElementException")) :
    MT l rm_lth D K [.ref b0, .int a1, .int a2, .ref la] (fl (lthF K la jf W1 W2 W3) [0, 1, 2, 3]) (if w then 1 else 2) (fl (lthF K la jf W1 W2 W3) [0, 1, 2, 3]) := by
  refine MT_of (loc0 := [(0, .ref b0), (1, .int a1), (2, .int a2), (3, .ref la)]) rfl (Nat.le_of_ble_eq_true rfl) ?_
  intro p e s m args below meth c A cx xx htb
  refine r_aload_n (pc := 0) cx dL_thread_0 3 rfl ?_
  refine r_iconst (pc := 1) cx dL_thread_1 ic_0 ?_
  refine r_aload_n (pc := 2) cx dL_thread_2 0 rfl ?_
  refine r_iload_n (pc := 3) cx dL_thread_3 1 rfl ?_
  refine r_iload_n (pc := 4) cx dL_thread_4 2 rfl ?_
  have e1 : fl (lthF K la jf W1 W2 W3) [0, 1, 2, 3] = [(la, aJ K 1 jf)] ++ (W1 ++ (W2 ++ W3)) := by simp [fl, lthF]
  rw [e1]
  refine r_perm (ws2 := (W1 ++ (W2 ++ W3)) ++ [(la, aJ K 1 jf)]) List.perm_append_comm ?_
  have cx1 := cx.up (c' := 1) (s' := 6) (Nat.le_refl _) (Nat.le_refl _)
  refine r_VX (pc := 5) cx xx [.int a1, .int a2] [.int 0, .ref la] hM yv_X9_thread lw7 ⟨rfl, rfl⟩ (by decide) (fr_pre [(la, aJ K 1 jf)] rfl) rfl (cov_pre _ _) 0 (by rw [List.getElem?_append_left (List.getElem?_eq_some_iff.mp he).1]; exact he) rfl rfl (Nat.le_of_ble_eq_true rfl) dL_thread_5 (by decide) (by decide) ?_
  intro q9 ce H1 locs1 ls hP hD hS hls h1 h2 h3
  refine lth_catch cx1 xx htb w rfl lw13 lw15 h1 h2 h3 ?_
  have back := @va_P_mem
  have hP2 : va_P D vwCl ([(la, aJ K 1 jf)] ++ (W1 ++ (W2 ++ W3))) H1 := va_P_mem (fun q hq => List.perm_append_comm.mem_iff.mp hq) hP
  have hD2 := va_D_perm List.perm_append_comm hD
  cases w
  · have fin : WW p l e rm_lth s m args below meth c D A 5 1 6 (MQ below (QI D K A 2 ([(la, aJ K 1 jf)] ++ (W1 ++ (W2 ++ W3)))) args s 1 6 A) ([(la, aJ K 1 jf)] ++ (W1 ++ (W2 ++ W3))) [(0, .ref b0), (1, .int a1), (2, .int a2), (3, .ref la)] [.ref q9] 17 := by
      refine r_astore (pc := 17) (loc' := [(4, .ref q9), (0, .ref b0), (1, .int a1), (2, .int a2), (3, .ref la)]) cx1 dL_thread_17 (by decide) rfl ?_
      refine r_iconst (pc := 19) cx1 dL_thread_19 (show Int32.ofInt 2 = (2 : Int32) by decide) ?_
      exact r_iretG cx1 rfl rfl dL_thread_20
    exact fin H1 locs1 ls hP2 hD2 hS hls
  · have fin : WW p l e rm_lth s m args below meth c D A 5 1 6 (MQ below (QI D K A 1 ([(la, aJ K 1 jf)] ++ (W1 ++ (W2 ++ W3)))) args s 1 6 A) ([(la, aJ K 1 jf)] ++ (W1 ++ (W2 ++ W3))) [(0, .ref b0), (1, .int a1), (2, .int a2), (3, .ref la)] [.ref q9] 13 := by
      refine r_astore (pc := 13) (loc' := [(4, .ref q9), (0, .ref b0), (1, .int a1), (2, .int a2), (3, .ref la)]) cx1 dL_thread_13 (by decide) rfl ?_
      refine r_iconst (pc := 15) cx1 dL_thread_15 ic_1 ?_
      exact r_iretG cx1 rfl rfl dL_thread_16
    exact fin H1 locs1 ls hP2 hD2 hS hls
theorem lth_ok (l : Launch) (D : va_G) (K : Nat → ClassId) (la : Nat) (jf : Nat → Int64) {W1 W2 W3 : va_W} {b0 : Nat} {fs : List Value} (a1 a2 r : Int32) (he : (W1 ++ (W2 ++ W3))[0]? = some (b0, .inr (8, fs)))
    (hM : MI l yX9_thread cX9_thread 4 (some .int) rm_TT_thread D K [.ref b0, .int a1, .int a2] (W1 ++ (W2 ++ W3)) r (W1 ++ (W2 ++ W3))) :
    MT l rm_lth D K [.ref b0, .int a1, .int a2, .ref la] (fl (lthF K la jf W1 W2 W3) [0, 1, 2, 3]) 0 (fl (lthF K la (vp_updL jf 0 r.toInt64) W1 W2 W3) [0, 1, 2, 3]) := by
  refine MT_of (loc0 := [(0, .ref b0), (1, .int a1), (2, .int a2), (3, .ref la)]) rfl (Nat.le_of_ble_eq_true rfl) ?_
  intro p e s m args below meth c A cx xx htb
  refine r_up (c' := 1) (s' := 6) (by decide) (by decide) ?_
  replace cx := cx.up (c' := 1) (s' := 6) (Nat.le_refl _) (Nat.le_refl _)
  refine r_aload_n (pc := 0) cx dL_thread_0 3 rfl ?_
  refine r_iconst (pc := 1) cx dL_thread_1 ic_0 ?_
  refine r_aload_n (pc := 2) cx dL_thread_2 0 rfl ?_
  refine r_iload_n (pc := 3) cx dL_thread_3 1 rfl ?_
  refine r_iload_n (pc := 4) cx dL_thread_4 2 rfl ?_
  refine r_blk (pc := 5) cx (F := lthF K la jf W1 W2 W3) (F' := lthF K la jf W1 W2 W3) [1, 2, 3] [0] [.int a1, .int a2] [.int 0, .ref la] hM (by decide) (by simp [fl, lthF]) (by simp [fl, lthF]) rfl rfl yv_X9_thread lw7 ⟨rfl, rfl⟩ (by decide) he rfl rfl (Nat.le_of_ble_eq_true rfl) dL_thread_5 ?_
  refine r_i2l (pc := 8) cx dL_thread_8 ?_
  refine r_last (pc := 9) (f' := vp_updL jf 0 r.toInt64) (ws' := fl (lthF K la (vp_updL jf 0 r.toInt64) W1 W2 W3) [0, 1, 2, 3]) cx 0 rfl (by decide) dL_thread_9 rfl rfl ?_
  refine r_goto (pc := 10) (tgt := 21) cx dL_thread_10 (by decide) ?_
  refine r_iconst (pc := 21) cx dL_thread_21 ic_0 ?_
  exact r_iretG cx rfl rfl dL_thread_22
