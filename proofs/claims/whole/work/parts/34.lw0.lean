/-! the law's walk: its rows -/
section MYLW
variable {p : Program} {l : Launch} {e : Env} {R : Room} {s : State} {m : MethodId} {args : Array Value} {below : List Frame} {meth : Method} {c : Code} {D : va_G} {K : Nat → ClassId} {A : Nat → Prop} {own : String} {cc : ByteArray} {nL : Nat} {ret : Option FieldType} {cells slots : Nat} {Q : State → Prop} {ws ws' : va_W} {loc : List (Nat × Value)} {st : List Value} {pc : Nat}
theorem r_locs {loc2 : List (Nat × Value)} (h : ∀ q ∈ loc2, q ∈ loc) (k : WW p l e R s m args below meth c D A nL cells slots Q ws loc2 st pc) : WW p l e R s m args below meth c D A nL cells slots Q ws loc st pc := fun H locs ls hP hD hS hl =>
  k H locs ls hP hD hS ⟨hl.1, hl.2.1, fun q hq => hl.2.2 q (h q hq)⟩
/-- one number of the script -/
theorem r_arg (cx : Cx p R s m args meth c D K A own cc nL ret cells slots) {b L : Nat} {xs : Nat → Int32} (hX : va_X b L xs s s.heap) (hb : b < s.heap.size) (hA : ∀ q, A q → s.heap.size ≤ q) (i k : Nat) {ki : Int} {pc : Nat} (hk : Int32.ofInt ki = NN k) (hi : i + k < L) (hL : L ≤ 3072) (j4 j0 : Nat)
    (h0 : loc[j0]? = some (0, .ref b)) (h4 : loc[j4]? = some (4, .int (NN i)))
    (d0 : decode cc pc = .ok (.aload_n 0, 1)) (d1 : decode cc (pc + 1) = .ok (.iload 4, 2)) (d3 : decode cc (pc + 3) = .ok (.iconst ki, 1)) (d4 : decode cc (pc + 4) = .ok (.iadd, 1)) (d5 : decode cc (pc + 5) = .ok (.iaload, 1))
    (kk : WW p l e R s m args below meth c D A nL cells slots Q ws loc (.int (xs (i + k)) :: st) (pc + 6)) : WW p l e R s m args below meth c D A nL cells slots Q ws loc st pc := by
  refine r_aload_n cx d0 j0 h0 ?_
  refine r_iload cx d1 j4 h4 ?_
  refine r_iconst cx d3 hk ?_
  refine r_iadd cx d4 ?_
  have e1 : (NN i + NN k).toNatClampNeg = i + k := by rw [n_add, n_tn (by omega)]
  have hin : ix (NN i + NN k) L := by
    unfold ix
    rw [e1, n_add, Int32.lt_iff_toInt_lt, nn_int (by omega), show (0 : Int32).toInt = 0 from rfl]
    omega
  refine r_sald cx hX hb hA hin d5 ?_
  rw [e1]
  exact kk
/-- a number as a truth value -/
theorem r_bz (cx : Cx p R s m args meth c D K A own cc nL ret cells slots) {pc t u : Nat} {o1 o2 : Int} {x : Int32} (d0 : decode cc pc = .ok (.ifCond .eq o1, 3)) (d3 : decode cc (pc + 3) = .ok (.iconst 1, 1)) (d4 : decode cc (pc + 4) = .ok (.goto o2, 3)) (dt : decode cc t = .ok (.iconst 0, 1)) (h1 : (pc : Int) + o1 = (t : Int)) (h2 : ((pc + 4 : Nat) : Int) + o2 = (u : Int)) (ht : t + 1 = u)
    (kk : WW p l e R s m args below meth c D A nL cells slots Q ws loc (.int (NN (if x = 0 then 0 else 1)) :: st) u) : WW p l e R s m args below meth c D A nL cells slots Q ws loc (.int x :: st) pc := by
  refine r_if_eq cx d0 h1 (fun z => ?_) (fun z => ?_)
  · rw [if_pos z] at kk
    refine r_iconst cx dt (show Int32.ofInt 0 = NN 0 by decide) ?_
    rw [ht]; exact kk
  · rw [if_neg z] at kk
    refine r_iconst cx d3 (show Int32.ofInt 1 = NN 1 by decide) ?_
    exact r_goto cx d4 h2 kk
theorem lwY : Cond.codeWith yL_thread cL_thread 5 (some .int) hhT ∈ WALL := wall_of (by decide +kernel)
theorem lwYg : (Cond.codeWith yL_thread cL_thread 5 (some .int) hhT :: va_wsS RL 48 yL_thread []).all (fun w => decide (w ∈ WALL)) = true := by decide +kernel
theorem lwYw : GoodIn WALL (va_wsS RL 48 yL_thread WdT) := by
  intro w hw
  unfold va_wsS at hw
  rcases List.mem_append.mp hw with h | h
  · have hm : w ∈ WALL := of_decide_eq_true (List.all_eq_true.mp lwYg w (List.mem_cons_of_mem _ (by unfold va_wsS; exact List.mem_append_left _ h)))
    exact ⟨hm, good_of_word (List.mem_filter.mp hm).2⟩
  · exact wall_in lwY w h
/-- the call of the law's own thread -/
theorem r_ST (cx : Cx p R s m args meth c D K A RL cc nL ret cells slots) (xx : XX K A s s.heap) {wc w1 : va_W} {r : Int32} {F F' : Nat → va_W} {is : List Nat} (js ks : List Nat) (As : List Value) (rest : List Value) (hAs : As.length = 4) (hM : MT l rm_lth D K As wc r w1)
    (hp : is.Perm (js ++ ks)) (hwc : fl F js = wc) (hw1 : fl F' js = w1) (hk : ks.map F = ks.map F') (ha : w1.map (·.1) = wc.map (·.1)) (hR : rm_lth.frames + 1 ≤ R.frames ∧ 8 + (5 + 11) + rm_lth.locals ≤ R.locals)
    (hst : st = As.reverse ++ rest) (hcat : (rest.map fun v => v.category).sum ≤ 8) (hd : decode cc pc = .ok (.invokestatic 48, 3)) (hc : cells + 1 ≤ R.cells) (hs : slots + 6 ≤ R.slots)
    (kk : WW p l e R s m args below meth c D A nL (cells + 1) (slots + 6) Q (fl F' is) loc (.int r :: rest) (pc + 3)) : WW p l e R s m args below meth c D A nL cells slots Q (fl F is) loc st pc := by
  have e1 : fl F (js ++ ks) = wc ++ fl F ks := by rw [fl_app, hwc]
  have e2 : fl F' (js ++ ks) = w1 ++ fl F ks := by rw [fl_app, hw1]; unfold fl; rw [hk]
  refine r_perm (fl_perm F hp) ?_
  rw [e1]
  subst hst
  intro H locs ls hP hD hS hl
  obtain ⟨hPc, hDc, hFc0, hback⟩ := fr_PD (fr_pre (fl F ks) ha) rfl (cov_pre _ _) hP hD
  have hFc := hFc0 (fun q h => cx.2.2.2.2.2.2.2.2.1 q (Nat.le_trans hS.1 h))
  refine va_calli (vx_runSW (As := As) (rest := rest) ⟨cx.1, cx.2.1, cx.2.2.1, cx.2.2.2.1, cx.2.2.2.2.1⟩ (hM H.size) (vx_cwSW (mc := 1) (ms := 6) As.length cx.2.2.2.2.1 lwYw rfl rfl rfl (by rw [hAs]; exact ⟨by decide +kernel, by decide +kernel, by decide +kernel⟩) hR) ⟨(fun a U g mk q => by obtain ⟨q0, q1, qP, qK, qD, qS, qX⟩ := q; exact ⟨q0, q1, qP, va_K.moved (u := U) (U := U.calling g mk a) (Vm.Alike.refl U.vm) qK, qD, SS.same (u := U) (U := U.calling g mk a) rfl qS, XX.same (u := U) (U := U.calling g mk a) rfl qX⟩), fun U hU hW => ⟨rfl, by rw [hU], by rw [hU]; exact hPc, va_K.moved hW.alike cx.2.2.2.2.2.2.2.1, hDc, by rw [hU]; exact (((cx.2.2.2.2.2.2.2.2.2.2.2).kept hS.2.1).narrow hFc).warm hW, by rw [hU]; exact ((xx.kept hS.2.1).narrow hFc).warm hW⟩⟩ rfl rfl hl.1 rfl (by show 2 * 0 + _ ≤ 8; omega) hd ⟨hc, hs⟩) hS (fun q _ h => hFc q h) hFc (fun r_ u t H1 locs1 ht hvm hw hB hz1 hk1 hS1 => ?_)
  obtain ⟨rfl, rfl⟩ := hw
  obtain ⟨hP1, -, -⟩ := hB
  rw [ht] at hP1
  obtain ⟨hP2, hD2⟩ := hback H1 hk1 hP1
  rw [← e2] at hP2 hD2
  exact r_perm (fl_perm F' hp).symm kk H1 locs1 ls hP2 hD2 hS1 hl
end MYLW
theorem fl_1 (F : Nat → va_W) (a : Nat) : fl F [a] = F a := by simp [fl]
theorem fl_2 (F : Nat → va_W) (a b : Nat) : fl F [a, b] = F a ++ F b := by simp [fl]
theorem fl_3 (F : Nat → va_W) (a b c : Nat) : fl F [a, b, c] = F a ++ (F b ++ F c) := by simp [fl]
theorem fl_4 (F : Nat → va_W) (a b c d : Nat) : fl F [a, b, c, d] = F a ++ (F b ++ (F c ++ F d)) := by simp [fl]
theorem fl_5 (F : Nat → va_W) (a b c d e : Nat) : fl F [a, b, c, d, e] = F a ++ (F b ++ (F c ++ (F d ++ F e))) := by simp [fl]
/-- the blocks of the law's world -/
def LB (K : Nat → ClassId) (la : Nat) (qo qr q qi qt qa qm : Nat → Nat) (jf : Nat → Int64) (g qe : Nat → Nat) (xim xtr : Nat) (tt : T_TT) (rd : T_Rd) (pa im tr : T_Pa) (al : T_Al) (pr df : T_Pg) (mm : T_M) : Nat → va_W := fun k => match k with
  | 0 => [(la, aJ K 1 jf)]
  | 1 => cl_TT K qo (qr 0) (q 0) (qi 0) (qt 0) (qa 0) (g 0) (qe 0) tt
  | 2 => cl_Rd K qr rd
  | 3 => cl_Pa K q (g 0) pa
  | 4 => cl_Pa K qi xim im
  | 5 => cl_Pa K qt xtr tr
  | 6 => cl_Al K qa al
  | 7 => cl_Pg K g pr
  | 8 => cl_Pg K qe df
  | _ => cl_M K qm mm
abbrev b10 : List Nat := [0, 1, 2, 3, 4, 5, 6, 7, 8, 9]
def locL (la b : Nat) (qo qm : Nat → Nat) (i : Nat) : List (Nat × Value) := [(4, .int (NN i)), (3, .ref la), (2, .ref (qm 0)), (1, .ref (qo 0)), (0, .ref b)]
/-- from this place on all goes well, whatever the two sides have come to, so long as they are alike -/
def GoOn (p : Program) (l : Launch) (e : Env) (s : State) (m : MethodId) (args : Array Value) (below : List Frame) (meth : Method) (c : Code) (D : va_G) (K : Nat → ClassId) (A : Nat → Prop) (Q : State → Prop) (la b : Nat) (qo qr q qi qt qa qm : Nat → Nat) (B i cells slots pc : Nat) : Prop :=
  ∀ (jf : Nat → Int64) (g qe : Nat → Nat) (xim xtr : Nat) (tt : T_TT) (rd : T_Rd) (pa im tr : T_Pa) (al : T_Al) (pr df : T_Pg) (mm : T_M), RTT B tt rd pa im al pr mm → (tt = NN 0 ∨ xim = g 0) →
    WW p l e room_1 s m args below meth c D A 7 cells slots Q (fl (LB K la qo qr q qi qt qa qm jf g qe xim xtr tt rd pa im tr al pr df mm) b10) (locL la b qo qm i) [] pc
