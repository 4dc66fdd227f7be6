/-! constructors: new cells, and the links of a nest that are no good words -/
def NWL : List Cond := [.methodLinkNest "TwinThreads$Pair" 17 yX7_init "TwinThreads", .methodLinkNest "TwinThreads$Pair" 30 yX5_init "TwinThreads", .methodLinkNest "TwinThreads$Pair" 37 yX2_init "TwinThreads", .methodLinkNest "TwinThreads$Pair" 44 yX8_init "TwinThreads", .methodLinkNest "TwinThreads" 43 yX0_init "TwinThreads", .methodLinkNest "TwinThreads$Alone" 11 yX7_init "TwinThreads"]
def NW (s : State) : Prop := ∀ w ∈ NWL, va_Nw w s
theorem nwl_onTables {w : Cond} (h : w ∈ NWL) : w.onTables = true := by
  simp only [NWL, List.mem_cons, List.not_mem_nil, or_false] at h
  rcases h with rfl | rfl | rfl | rfl | rfl | rfl <;> rfl
theorem NW.same {u U : State} (h : u.vm = U.vm) (hZ : NW u) : NW U := fun w hw => va_Nw.same (nwl_onTables hw) h (hZ w hw)
theorem NW.warm {s U : State} (hW : s.WarmedH U.vm) (hZ : NW s) : NW U := fun w hw => by
  have h := hZ w hw
  simp only [NWL, List.mem_cons, List.not_mem_nil, or_false] at hw
  rcases hw with rfl | rfl | rfl | rfl | rfl | rfl <;> exact va_Nw.warmM hW h
def PCn (D : va_G) (K : Nat → ClassId) (As : List Value) (ws : va_W) (sz : Nat) : Array Value → State → Prop :=
  va_Pc As (fun U => U.heap.size = sz ∧ va_P D vwCl ws U.heap ∧ va_K D vwCl (TYS K) U ∧ va_D (fun _ => True) ws ∧ SS K (va_A ws sz) U U.heap ∧ NW U)
def QC (D : va_G) (K : Nat → ClassId) (A : Nat → Prop) (ad : List Nat) (Po : va_W → va_W → Prop) : Array Value → State → Outcome → State → Prop := va_Qv (fun u => ∃ wa wn : va_W, u = wa ++ wn ∧ wa.map (·.1) = ad ∧ Po wa wn) (BW D K A) A
def MC (l : Launch) (y : MethodName) (b : ByteArray) (n : Nat) (rm : Room) (D : va_G) (K : Nat → ClassId) (As : List Value) (ws : va_W) (Po : va_W → va_W → Prop) (mc ms : Nat) : Prop := ∀ sz, Met l y (Wd y b n none) rm (PCn D K As ws sz) (QC D K (va_A ws sz) (ws.map (·.1)) Po) mc ms (va_A ws sz)
theorem MC_of {l : Launch} {y : MethodName} {b : ByteArray} {n : Nat} {rm : Room} {D : va_G} {K : Nat → ClassId} {As : List Value} {ws : va_W} {Po : va_W → va_W → Prop} {mc ms : Nat} {loc0 : List (Nat × Value)} (hy : plainFor y = true) (hl0 : lv_args 0 As = loc0) (hn : (lg_sl As).length ≤ n)
    (h : ∀ (p : Program) (e : Env) (s : State) (m : MethodId) (args : Array Value) (below : List Frame) (meth : Method) (c : Code) (A : Nat → Prop), Cx p rm s m args meth c D K A y.cls b n none 0 0 → NW s → meth.name = y.name → WW p l e rm s m args below meth c D A n 0 0 (MQ below (QC D K A (ws.map (·.1)) Po) args s mc ms A) ws loc0 [] 0) : MC l y b n rm D K As ws Po mc ms := by
  intro sz
  refine ofWF (cc := b) (maxL := n) (ret := none) hy rfl ?_
  intro p e s m args below meth c s₁ B hml hv
  obtain ⟨rfl, hsz, hP, hK, hD0, hSS, hnw⟩ := hv
  have hts := atoms_spec (ws := Wd y b n none) B.pre
  subst hsz
  have hD := hD0.self (sz := s.heap.size)
  have hA : ∀ q : Nat, s.heap.size ≤ q → va_A ws s.heap.size q := fun q h => Or.inr h
  generalize va_A ws s.heap.size = A at hD hA hSS ⊢
  have hl := lv_entry As (n := n) hn
  rw [lg_entry_eq]
  generalize (lg_sl As ++ List.replicate (n - (lg_sl As).length) Slot.unset).toArray = ls at hl ⊢
  rw [hl0] at hl
  exact h p e s m _ below meth c A ⟨B.exec, B.bytes, hml, findClass_of_methodNamed B.named, fun w hw => hts w (List.mem_cons_of_mem _ hw), B.returns, B.notSynchronized, hK, hA, Nat.zero_le _, Nat.zero_le _, hSS⟩ hnw (name_of_methodNamed B.named B.method).1 s.heap [] ls hP hD va_S.rf hl
theorem va_D_app {A : Nat → Prop} {w1 w2 : va_W} {n : Nat} (h1 : va_D A w1) (h2 : va_D A w2) (hlt : ∀ (k : Nat) (q : Nat × va_E), w1[k]? = some q → q.1 < n) (hge : ∀ (k : Nat) (q : Nat × va_E), w2[k]? = some q → n ≤ q.1) : va_D A (w1 ++ w2) := by
  have key : ∀ (k : Nat) (q : Nat × va_E), (w1 ++ w2)[k]? = some q → (w1[k]? = some q) ∨ (w1.length ≤ k ∧ w2[k - w1.length]? = some q) := by
    intro k q hk
    by_cases hl : k < w1.length
    · rw [List.getElem?_append_left hl] at hk; exact Or.inl hk
    · rw [List.getElem?_append_right (by omega)] at hk; exact Or.inr ⟨by omega, hk⟩
  refine ⟨fun i j x y hx hy hxy => ?_, fun k q hq => ?_⟩
  · rcases key i x hx with a1 | ⟨l1, a1⟩ <;> rcases key j y hy with a2 | ⟨l2, a2⟩
    · exact h1.1 i j x y a1 a2 hxy
    · have := hlt _ _ a1; have := hge _ _ a2; omega
    · have := hge _ _ a1; have := hlt _ _ a2; omega
    · have := h2.1 _ _ x y a1 a2 hxy; omega
  · rcases key k q hq with a1 | ⟨-, a1⟩
    · exact h1.2 k q a1
    · exact h2.2 _ q a1
theorem va_P_left {D : va_G} {cl : List vw_C} {w1 w2 : va_W} {H : Heap} (h : va_P D cl (w1 ++ w2) H) : va_P D cl w1 H := fun k q hq => h k q (by rw [List.getElem?_append_left (List.getElem?_eq_some_iff.mp hq).1]; exact hq)
theorem va_P_right {D : va_G} {cl : List vw_C} {w1 w2 : va_W} {H : Heap} (h : va_P D cl (w1 ++ w2) H) : va_P D cl w2 H := fun k q hq => h (w1.length + k) q (by rw [List.getElem?_append_right (by omega), show w1.length + k - w1.length = k by omega]; exact hq)
/-- what a constructor hands back, seen from its caller -/
theorem fr_new {A0 A1 : Nat → Prop} {D : va_G} {cl : List vw_C} {ws ws' wc wa wn : va_W} {ms : List (Option Nat)} {n : Nat} {H H1 : Heap} (hF : Fr wc wa ws ws' ms) (hn : wc.length = n) (hcov : cov ms n = true) (hP : va_P D cl ws H) (hD : va_D A0 ws)
    (hA : ∀ q, H.size ≤ q → A0 q) (hA1 : A1 = va_A wc H.size) (ha : wa.map (·.1) = wc.map (·.1)) (hk : ∀ q : Nat, q < H.size → ¬ A1 q → H1[q]? = H[q]?) (hP1 : va_P D cl (wa ++ wn) H1) (hD1 : va_D A1 (wa ++ wn)) : va_P D cl (ws' ++ wn) H1 ∧ va_D A0 (ws' ++ wn) := by
  subst hA1
  obtain ⟨-, -, -, hback⟩ := fr_PD hF hn hcov hP hD
  obtain ⟨hP2, hD2⟩ := hback H1 hk (va_P_left hP1)
  obtain ⟨f1, -⟩ := fr_at hF
  have hge : ∀ (k : Nat) (q : Nat × va_E), wn[k]? = some q → H.size ≤ q.1 := by
    intro k q hq
    have hq' : (wa ++ wn)[wa.length + k]? = some q := by rw [List.getElem?_append_right (by omega), show wa.length + k - wa.length = k by omega]; exact hq
    rcases hD1.2 _ q hq' with ⟨j, e, hj⟩ | h
    · exfalso
      have h1 : (wc.map (·.1))[j]? = some q.1 := by rw [List.getElem?_map, hj]; rfl
      rw [← ha, List.getElem?_map] at h1
      cases hw : wa[j]? with
      | none => rw [hw] at h1; cases h1
      | some z =>
        rw [hw] at h1
        have hz : z.1 = q.1 := Option.some.inj h1
        have hl := (List.getElem?_eq_some_iff.mp hw).1
        have := hD1.1 j _ z q (by rw [List.getElem?_append_left hl]; exact hw) hq' hz
        omega
    · exact h
  have hlt : ∀ (k : Nat) (q : Nat × va_E), ws'[k]? = some q → q.1 < H.size := by
    intro k q hq
    rcases f1 k q hq with ⟨-, h2⟩ | ⟨j, p, -, h2, -, -, h5⟩
    · exact (hP k q h2).lt
    · rw [h5]; exact (hP k p h2).lt
  refine ⟨hP2.app (va_P_right hP1), va_D_app hD2 ⟨fun i j x y hx hy hxy => ?_, fun k q hq => hA _ (hge k q hq)⟩ hlt hge⟩
  have := hD1.1 (wa.length + i) (wa.length + j) x y (by rw [List.getElem?_append_right (by omega), show wa.length + i - wa.length = i by omega]; exact hx) (by rw [List.getElem?_append_right (by omega), show wa.length + j - wa.length = j by omega]; exact hy) hxy
  omega
section MYROWSC
variable {p : Program} {l : Launch} {e : Env} {R : Room} {s : State} {m : MethodId} {args : Array Value} {below : List Frame} {meth : Method} {c : Code} {D : va_G} {K : Nat → ClassId} {A : Nat → Prop} {own : String} {cc : ByteArray} {nL : Nat} {ret : Option FieldType} {cells slots : Nat} {Q : State → Prop} {ws ws' : va_W} {loc : List (Nat × Value)} {st : List Value} {pc : Nat}
theorem Cx.up (cx : Cx p R s m args meth c D K A own cc nL ret cells slots) {c' s' : Nat} (h1 : c' ≤ R.cells) (h2 : s' ≤ R.slots) : Cx p R s m args meth c D K A own cc nL ret c' s' := ⟨cx.1, cx.2.1, cx.2.2.1, cx.2.2.2.1, cx.2.2.2.2.1, cx.2.2.2.2.2.1, cx.2.2.2.2.2.2.1, cx.2.2.2.2.2.2.2.1, cx.2.2.2.2.2.2.2.2.1, h1, h2, cx.2.2.2.2.2.2.2.2.2.2.2⟩
theorem r_new (cx : Cx p R s m args meth c D K A own cc nL ret cells slots) {ci : Nat} {C : String} {T : u_T} {N : Nat} {ty0 : Nat → FieldType} (cf : CF ci C T N ty0) {ix : Nat} (fs : List Value) (hcl : Cond.classLink own ix C ∈ WALL) (hinst : Cond.instantiable C N ∈ WALL) (hini : Cond.initialized C ∈ WALL) (hfs : ∀ j, j < N → defaultValue (ty0 j) = vp_V fs j) (hc : cells + 1 ≤ R.cells) (hs : slots + N ≤ R.slots) (hd : decode cc pc = .ok (.new ix, 3))
    (k : ∀ a : Nat, WW p l e R s m args below meth c D A nL (cells + 1) (slots + N) Q (ws ++ [(a, ob ci fs)]) loc (.ref a :: st) (pc + 3)) : WW p l e R s m args below meth c D A nL cells slots Q ws loc st pc := fun H locs ls hP hD hS hl =>
  va_new (D := D) cx.1 cx.2.1 cx.2.2.2.2.1 cf.2.1 ty0 cf.2.2.1 cx.2.2.2.1 (cx.2.2.2.2.1 _ hcl) (cx.2.2.2.2.1 _ hinst) (cx.2.2.2.2.1 _ hini) cx.2.2.2.2.2.2.2.1 hP hD hS cx.2.2.2.2.2.2.2.2.1 cf.1 hfs hc hs hd (fun q H1 hP hD hS => k q H1 locs ls hP hD hS hl)
theorem arr_same {cA cB : ClassId} {ty : FieldType} (hno : ∀ C, ty ≠ .object C) (h1 : va_RA s cA ty) (h2 : va_RA s cB ty) : cA = cB := by
  cases ty with
  | object C => exact absurd rfl (hno C)
  | _ =>
    have h1' : s.vm.findClass _ = some cA := h1
    have h2' : s.vm.findClass _ = some cB := h2
    exact Option.some.inj (h1'.symm.trans h2')
theorem r_newi (cx : Cx p R s m args meth c D K A own cc nL ret cells slots) {n : Int32} {N : Nat} (harr : Cond.arrayClass .int ∈ WALL) (hn : ¬ n < 0) (hN : n.toNatClampNeg = N) (hb : N * 4 ≤ 536870912) (hc : cells + 1 ≤ R.cells) (hs : slots + N ≤ R.slots) (hd : decode cc pc = .ok (.newarray .int, 2))
    (k : ∀ a : Nat, WW p l e R s m args below meth c D A nL (cells + 1) (slots + N) Q (ws ++ [(a, aI K N (fun _ => 0))]) loc (.ref a :: st) (pc + 2)) : WW p l e R s m args below meth c D A nL cells slots Q ws loc (.int n :: st) pc := fun H locs ls hP hD hS hl =>
  va_newa (D := D) (atype := .int) (ty := .int) (a0 := (N, .inl (fun _ => 0))) cx.1 cx.2.1 (cx.2.2.2.2.1 _ harr) rfl cx.2.2.2.2.2.2.2.1 hP hD hS cx.2.2.2.2.2.2.2.2.1 (fun _ => rfl) hn hN hb hc hs hd (fun q cA H1 hK hP hD hS => by
    obtain rfl : cA = K 0 := arr_same (fun _ h => by cases h) (hK.2 4 (cA, .int) rfl).2 (hK.2 0 (K 0, .int) rfl).2
    exact k q H1 locs ls hP hD hS hl)
theorem r_newb (cx : Cx p R s m args meth c D K A own cc nL ret cells slots) {n : Int32} {N : Nat} (harr : Cond.arrayClass .byte ∈ WALL) (hn : ¬ n < 0) (hN : n.toNatClampNeg = N) (hb : N * 1 ≤ 536870912) (hc : cells + 1 ≤ R.cells) (hs : slots + N ≤ R.slots) (hd : decode cc pc = .ok (.newarray .byte, 2))
    (k : ∀ a : Nat, WW p l e R s m args below meth c D A nL (cells + 1) (slots + N) Q (ws ++ [(a, aB K N (fun _ => 0))]) loc (.ref a :: st) (pc + 2)) : WW p l e R s m args below meth c D A nL cells slots Q ws loc (.int n :: st) pc := fun H locs ls hP hD hS hl =>
  va_newa (D := D) (atype := .byte) (ty := .byte) (a0 := (N, .inl (fun _ => 0))) cx.1 cx.2.1 (cx.2.2.2.2.1 _ harr) rfl cx.2.2.2.2.2.2.2.1 hP hD hS cx.2.2.2.2.2.2.2.2.1 (fun _ => rfl) hn hN hb hc hs hd (fun q cA H1 hK hP hD hS => by
    obtain rfl : cA = K 1 := arr_same (fun _ h => by cases h) (hK.2 4 (cA, .byte) rfl).2 (hK.2 1 (K 1, .byte) rfl).2
    exact k q H1 locs ls hP hD hS hl)
theorem r_newz (cx : Cx p R s m args meth c D K A own cc nL ret cells slots) {n : Int32} {N : Nat} (harr : Cond.arrayClass .boolean ∈ WALL) (hn : ¬ n < 0) (hN : n.toNatClampNeg = N) (hb : N * 1 ≤ 536870912) (hc : cells + 1 ≤ R.cells) (hs : slots + N ≤ R.slots) (hd : decode cc pc = .ok (.newarray .boolean, 2))
    (k : ∀ a : Nat, WW p l e R s m args below meth c D A nL (cells + 1) (slots + N) Q (ws ++ [(a, aZ K N (fun _ => 0))]) loc (.ref a :: st) (pc + 2)) : WW p l e R s m args below meth c D A nL cells slots Q ws loc (.int n :: st) pc := fun H locs ls hP hD hS hl =>
  va_newa (D := D) (atype := .boolean) (ty := .boolean) (a0 := (N, .inl (fun _ => 0))) cx.1 cx.2.1 (cx.2.2.2.2.1 _ harr) rfl cx.2.2.2.2.2.2.2.1 hP hD hS cx.2.2.2.2.2.2.2.2.1 (fun _ => rfl) hn hN hb hc hs hd (fun q cA H1 hK hP hD hS => by
    obtain rfl : cA = K 2 := arr_same (fun _ h => by cases h) (hK.2 4 (cA, .boolean) rfl).2 (hK.2 2 (K 2, .boolean) rfl).2
    exact k q H1 locs ls hP hD hS hl)
/-- a link that is a good word, or one of a nest -/
def YI (y : MethodName) (b : ByteArray) (n k : Nat) : Prop := YOk y k ∧ Cond.code y b n none ∈ WALL ∧ Cond.initialized y.cls ∈ WALL ∧ Cond.instanceMethod y ∈ WALL ∧ y.name = "<init>"
theorem r_I (cx : Cx p R s m args meth c D K A own cc nL ret cells slots) (nw : NW s) {y : MethodName} {b : ByteArray} {maxL : Nat} {rm : Room} {wc0 wc : va_W} {Po : va_W → va_W → Prop} {mc ms : Nat} {b0 : Nat} {ix : Nat} (As : List Value) (rest : List Value) {mk : List (Option Nat)} {nn : Nat} (hM : MC l y b maxL rm D K (.ref b0 :: As) wc0 Po mc ms) (hw0 : wc0 = wc) (hy : YI y b maxL As.length) (hlk : Cond.methodLink own ix y ∈ WALL ∨ ∃ host, Cond.methodLinkNest own ix y host ∈ NWL) (hrm : rm.cells = mc ∧ rm.slots = ms) (hR : rm.frames + 1 ≤ R.frames ∧ 8 + (maxL + 11) + rm.locals ≤ R.locals)
    (hf0 : Fr wc wc ws ws mk) (hnn : wc.length = nn) (hcov : cov mk nn = true) (hst : st = As.reverse ++ .ref b0 :: rest) (hcat : (rest.map fun v => v.category).sum ≤ 8) (hc : cells + mc ≤ R.cells) (hs : slots + ms ≤ R.slots) (hd : decode cc pc = .ok (.invokespecial ix, 3))
    (kk : ∀ wa wn : va_W, Po wa wn → ∃ ws', Fr wc wa ws ws' mk ∧ WW p l e R s m args below meth c D A nL (cells + mc) (slots + ms) Q (ws' ++ wn) loc rest (pc + 3)) : WW p l e R s m args below meth c D A nL cells slots Q ws loc st pc := by
  subst hst hw0
  intro H locs ls hP hD hS hl
  obtain ⟨hPc, hDc, hFc0, -⟩ := fr_PD hf0 hnn hcov hP hD
  have hA0 : ∀ q, H.size ≤ q → A q := fun q h => cx.2.2.2.2.2.2.2.2.1 q (Nat.le_trans hS.1 h)
  have hFc := hFc0 hA0
  have hpre : PreS s H (PCn D K (.ref b0 :: As) wc0 H.size) (.ref b0 :: As) := ⟨(fun a U g mk q => by obtain ⟨q0, q1, qP, qK, qD, qS, qN⟩ := q; exact ⟨q0, q1, qP, va_K.moved (u := U) (U := U.calling g mk a) (Vm.Alike.refl U.vm) qK, qD, SS.same (u := U) (U := U.calling g mk a) rfl qS, NW.same (u := U) (U := U.calling g mk a) rfl qN⟩), fun U hU hW => ⟨rfl, by rw [hU], by rw [hU]; exact hPc, va_K.moved hW.alike cx.2.2.2.2.2.2.2.1, hDc, by rw [hU]; exact (((cx.2.2.2.2.2.2.2.2.2.2.2).kept hS.2.1).narrow hFc).warm hW, NW.warm hW nw⟩⟩
  have hrun : va_Run p l e R s m args below meth c H locs cells slots mc ms (F0 m pc ls (As.reverse ++ .ref b0 :: rest)) rest (QC D K (va_A wc0 H.size) (wc0.map (·.1)) Po (Value.ref b0 :: As).toArray) (va_A wc0 H.size) := by
    rcases hlk with hlk | ⟨host, hlk⟩
    · exact va_runI (As := As) (rest := rest) ⟨cx.1, cx.2.1, cx.2.2.1, cx.2.2.2.1, cx.2.2.2.2.1⟩ (hM H.size) ⟨callB_of As.length cx.2.2.2.2.1 (wall_in hy.2.1) rfl hrm.1 hrm.2 (cx.2.2.2.2.1 _ hy.2.2.1) (cx.2.2.2.2.1 _ hlk) hy.1 hR, hy.2.2.2.2, cx.2.2.2.2.1 _ hy.2.2.2.1⟩ hpre rfl rfl hl.1 rfl (by show 2 * 0 + _ ≤ 8; omega) hd ⟨hc, hs⟩
    · exact va_runIN (host := host) (As := As) (rest := rest) ⟨cx.1, cx.2.1, cx.2.2.1, cx.2.2.2.1, cx.2.2.2.2.1⟩ (hM H.size) ⟨va_cnB As.length cx.2.2.2.2.1 (wall_in hy.2.1) rfl hrm.1 hrm.2 (nw _ hlk) (cx.2.2.2.2.1 _ hy.2.2.1) hy.1 hR, hy.2.2.2.2, cx.2.2.2.2.1 _ hy.2.2.2.1⟩ hpre rfl rfl hl.1 rfl (by show 2 * 0 + _ ≤ 8; omega) hd ⟨hc, hs⟩
  refine va_callv hrun hS (fun q _ h => hFc q h) hFc (fun u t H1 locs1 ht hvm hw hB hz1 hk1 hS1 => ?_)
  obtain ⟨wa, wn, rfl, had, hPo⟩ := hw
  obtain ⟨hP1, -, hD1⟩ := hB
  rw [ht] at hP1
  obtain ⟨ws', hF, k1⟩ := kk wa wn hPo
  obtain ⟨hP2, hD2⟩ := fr_new hF hnn hcov hP hD hA0 rfl had hk1 hP1 hD1
  exact k1 H1 locs1 ls hP2 hD2 hS1 hl
theorem r_cret (cx : Cx p R s m args meth c D K A own cc nL none cells slots) {ad : List Nat} {Po : va_W → va_W → Prop} (wa wn : va_W) (hw : ws = wa ++ wn) (ha : wa.map (·.1) = ad) (hPo : Po wa wn) (hd : decode cc pc = .ok (.return_, 1)) : WW p l e R s m args below meth c D A nL cells slots (MQ below (QC D K A ad Po) args s cells slots A) ws loc [] pc := fun H locs ls hP hD hS hl => by subst hw; exact W.vret cx.1 cx.2.1 cx.2.2.2.2.2.1 (fun t ht hW => ⟨⟨wa ++ wn, rfl, ⟨wa, wn, rfl, ha, hPo⟩, by rw [ht]; exact hP, va_K.moved hW.alike cx.2.2.2.2.2.2.2.1, hD⟩, hS.F ht⟩) hS.2.2 hd cx.2.2.2.2.2.2.1
end MYROWSC
