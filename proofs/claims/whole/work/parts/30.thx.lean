/-! TwinThreads.thread where it throws -/
section XNT
variable {p : Program} {l : Launch} {e : Env} {R : Room} {s : State} {m : MethodId} {args : Array Value} {below : List Frame} {meth : Method} {c : Code} {H : Heap} {locs : List Loc} {cells slots : Nat} {free : Addr → Prop} {ls : Array Slot} {rest : List Value} {Qc : Array Value → State → Outcome → State → Prop} {XC : String → State → State → Prop}
/-- 'throw new E("text")' by another place of the pool -/
theorem xn_throwS {cc : ByteArray} {pc : Nat} (hexec : p.tables.exec = Jvm.exec) (hb : c.code = cc) (hl : l.stackTraces = false) {own cls Y0 text : String} {names : List String} {ik is ic mc ms sa idx : Nat} {bytes : ByteArray} {A : Nat → Prop}
    (hown : s.vm.findClass own = some m.cls) (hcls : Bundle.fit cls = true) (hY0 : Bundle.fit Y0 = true) (hnames : ∀ n ∈ names, Bundle.fit n = true)
    (b0 : decode bytes 0 = .ok (.aload_n 0, 1)) (b1 : decode bytes 1 = .ok (.aload_n 1, 1)) (b2 : decode bytes 2 = .ok (.invokespecial idx, 3)) (b5 : decode bytes 5 = .ok (.return_, 1))
    (hk : (Cond.classLink own ik cls).before args s = true) (hini : (Cond.initialized cls).before args s = true) (hstr : vk_R own is text sa s) (hat : ∀ w ∈ (xn_atoms own ic cls Y0 names idx bytes).filter vx_no, w.before args s = true)
    (hgood : ∀ w ∈ Cond.classLink own ik cls :: Cond.initialized cls :: (xn_atoms own ic cls Y0 names idx bytes).filter vx_no, vx_ot w = true)
    (hU : vx_Zq Bundle.tN "UNASSIGNED_STACK" Bundle.steD A s s.heap) (hN : vx_Zq Bundle.tN "SUPPRESSED_SENTINEL" Bundle.listD A s s.heap) (hS : va_S A s.heap H locs) (hsize : ls.size = c.maxLocals)
    (d0 : decode cc pc = .ok (.new ik, 3)) (d3 : decode cc (pc + 3) = .ok (.dup, 1)) (d4 : decode cc (pc + 4) = .ok (.ldc is, 2)) (d6 : decode cc (pc + 6) = .ok (.invokespecial ic, 3)) (d9 : decode cc (pc + 9) = .ok (.athrow, 1))
    (hout : ∀ x ∈ c.exceptionTable.toList, covers x (pc + 9) = false)
    (hRframes : names.length + 4 < R.frames) (hRlocals : (rest.map fun v => v.category).sum + (13 * (names.length + 2) + 43) ≤ R.locals) (hRcells : cells + 1 ≤ R.cells) (hRslots : slots + 6 ≤ R.slots) (hlocks : meth.locks = false)
    (hx : ∀ t : State, s.vm.Alike t.vm → H.size ≤ t.heap.size → (∀ q : Nat, q < H.size → t.heap[q]? = H[q]?) → XC cls s t)
    (hf : ∀ z ∈ locs, free z.base) (hc : cells + 1 ≤ mc) (hs : slots + 6 ≤ ms) :
    W p l e R s m args below meth c H locs cells slots (vx_MQ below Qc XC args s mc ms free) (F0 m pc ls rest) := by
  intro T hT X
  have htr : e.platform.stackTraces = false := (show e.platform.stackTraces = l.stackTraces by rw [X.admits.platform]).trans hl
  have Y := vx_rebase X (R' := { frames := R.frames, locals := R.locals, cells := 1, slots := 6 }) (Nat.le_refl _) (Nat.le_refl _) hRcells hRslots
  obtain ⟨u, hu⟩ : ∃ z, z = (T.setVm s.vm).setFrames (.invoking m args :: below) := ⟨_, rfl⟩
  rw [← hu] at Y
  have hvm : u.vm = s.vm := by rw [hu]; rfl
  have hhp : u.heap = H := by rw [hu]; exact hT
  have hW0 : s.WarmedH u.vm := by rw [hvm]; exact State.WarmedH.refl s
  have at1 : ∀ w ∈ (xn_atoms own ic cls Y0 names idx bytes).filter vx_no, w.before args u = true := fun w hw => vx_ot_at hW0 hvm.symm (hgood w (List.mem_cons_of_mem _ (List.mem_cons_of_mem _ hw))) (hat w hw)
  have k1 : (Cond.classLink own ik cls).before args u = true := vx_ot_at hW0 hvm.symm (hgood _ List.mem_cons_self) hk
  have i1 : (Cond.initialized cls).before args u = true := vx_ot_at hW0 hvm.symm (hgood _ (List.mem_cons_of_mem _ List.mem_cons_self)) hini
  have U1 : vx_Zq Bundle.tN "UNASSIGNED_STACK" Bundle.steD A u u.heap := by rw [hhp]; exact vx_Zq.moved hW0.alike (hU.kept hS.2.1)
  have N1 : vx_Zq Bundle.tN "SUPPRESSED_SENTINEL" Bundle.listD A u u.heap := by rw [hhp]; exact vx_Zq.moved hW0.alike (hN.kept hS.2.1)
  have h : ∀ w ∈ xn_atoms own ic cls Y0 names idx bytes, w.before args u = true := vx_own at1 (vx_isRefq U1.1) (vx_isRefq N1.1) U1.2.word N1.2.word
  have o1 : u.vm.findClass own = some m.cls := by rw [hvm]; exact hown
  have n1 : (Cond.instantiable cls 6).before args u = true := h _ (by simp [xn_atoms])
  obtain ⟨v1, cX, kX, hfX, hkX, -, -, X1, st1⟩ := Y.newCold hexec (own := own) (C := cls) (index := ik) (n := 6) o1 k1 n1 i1 (g := F0 m pc ls rest) rfl (by rw [hb]; exact d0) (Nat.le_refl _) (Nat.le_refl _)
  generalize hT1 : (T.setVm v1).pushCell { cls := cX, slots := kX.instanceTypes.map defaultValue, vm := .none } = T1 at X1 st1
  have hcat : (Value.ref T.heap.size).category = 1 := rfl
  have hcA : T1.heap[T.heap.size]? = some (freshCell cX kX) := by rw [← hT1]; exact State.heap_pushCell_size _ _
  have e3 : decode c.code (pc + 3) = .ok (.dup, 1) := by rw [hb]; exact d3
  have e4 : decode c.code (pc + 4) = .ok (.ldc is, 2) := by rw [hb]; exact d4
  have s1 : vk_R own is text sa u := vk_R.warm hW0 hstr
  obtain ⟨Z, hsteps, hrun, hend, hW, hsame, ce, hce, hO1, hO2⟩ := xn_ctorS X1 hexec htr (own := own) (cls := cls) (Y0 := Y0) (r := names) (ic := ic) (idx := idx) (bytes := bytes) o1 hcls hY0 hnames b0 b1 b2 b5 h (fun x hx => nomatch hx) hfX hkX hcA (by rw [hhp, hT]; exact Nat.le_refl _) (msg := .ref sa) rfl
    (g := { method := m, pc := pc + 6, locals := ls, stack := .ref sa :: .ref T.heap.size :: .ref T.heap.size :: rest, locked := none }) rfl hsize rfl rfl (rest := rest) rfl
    (by rw [hb]; exact d6) (by rw [hb]; exact d9) hout hRframes (by simp only [List.map_cons, List.sum_cons, hcat]; omega) hlocks
  obtain ⟨f1, f2⟩ := vx_frame hsame
  rw [hhp] at f1 f2
  have hWs : s.WarmedH Z.vm := State.WarmedH.trans hW0 hW
  have hcl : s.vm.findClass cls = some ce.cls := by rw [hvm] at hO2; exact hO2
  have hall : s.sameButNew ({ Z with vm := s.vm } : State) locs mc ms := by
    subst hu
    obtain ⟨g1, g2⟩ := hsame
    rw [State.setFrames_setFrames] at g1
    have h2 : (T.setVm s.vm).sameButNew ({ Z with vm := s.vm } : State) [] (0 + 1) (0 + 6) := ⟨g1, g2⟩
    have h3 := X.same.trans h2
    rw [List.append_nil] at h3
    exact h3.mono hc hs
  refine ⟨Z, ?_, .threw T.heap.size, hrun, hend, Or.inr ⟨T.heap.size, rfl, cls, ce, locs, hx Z hWs.alike f1 (fun q hq => f2 q hq (fun z hz => nomatch hz)), hce, hO1, hcl, hWs, hall, hf⟩⟩
  refine st1 _ ?_
  show Steps p.tables e below (T1.setTop { method := m, pc := pc + 3, locals := ls, stack := .ref T.heap.size :: rest, locked := none }) _
  jvm_step X1.here [X1.here.top, hexec, e3, Value.category]
  exact X1.ldcString hexec (own := own) (text := text) (index := is) (a := sa) o1 s1.1 s1.2
    (g := { method := m, pc := pc + 4, locals := ls, stack := .ref T.heap.size :: .ref T.heap.size :: rest, locked := none }) rfl e4 _ hsteps
end XNT
def nm2 : List String := ["java/lang/RuntimeException", "java/lang/Exception"]
def sxB : ByteArray := ⟨#[0x2a, 0x2b, 0xb7, 0x00, 0x0d, 0xb1]⟩
def XBL : List Cond := [.declares ⟨"java/lang/RuntimeException", "<init>", "(Ljava/lang/String;)V"⟩, .declares ⟨"java/lang/Exception", "<init>", "(Ljava/lang/String;)V"⟩, .declares ⟨"java/lang/Throwable", "<init>", "(Ljava/lang/String;)V"⟩, .castable "java/lang/IndexOutOfBoundsException" "java/lang/IndexOutOfBoundsException", .castable "java/util/NoSuchElementException" "java/util/NoSuchElementException"]
def XB (s : State) : Prop := ∀ w ∈ XBL, va_Nw w s
theorem xbl_onTables {w : Cond} (h : w ∈ XBL) : w.onTables = true := by
  simp only [XBL, List.mem_cons, List.not_mem_nil, or_false] at h
  rcases h with rfl | rfl | rfl | rfl | rfl <;> rfl
theorem XB.same {u U : State} (h : u.vm = U.vm) (hZ : XB u) : XB U := fun w hw => va_Nw.same (xbl_onTables hw) h (hZ w hw)
theorem XB.warm {s U : State} (hW : s.WarmedH U.vm) (hZ : XB s) : XB U := fun w hw => by
  have h := hZ w hw
  simp only [XBL, List.mem_cons, List.not_mem_nil, or_false] at hw
  rcases hw with rfl | rfl | rfl | rfl | rfl
  · exact va_Nw.warmD hW h
  · exact va_Nw.warmD hW h
  · exact va_Nw.warmD hW h
  · exact va_Nw.warmC hW h
  · exact va_Nw.warmC hW h
/-- what a throw asks of the heap and the tables -/
def XX (K : Nat → ClassId) (A : Nat → Prop) (U : State) (H : Heap) : Prop :=
  XB U ∧ vk_R "TwinThreads" 94 "no such thread" (K 30) U ∧ vk_R "TwinThreads" 123 "no such what" (K 31) U ∧ vx_Zq Bundle.tN "UNASSIGNED_STACK" Bundle.steD A U H ∧ vx_Zq Bundle.tN "SUPPRESSED_SENTINEL" Bundle.listD A U H ∧ va_Nc "java/util/NoSuchElementException" "java/lang/IndexOutOfBoundsException" U
theorem XX.kept {K : Nat → ClassId} {A : Nat → Prop} {U : State} {H H1 : Heap} (h : XX K A U H) (hq : ∀ a : Nat, a < H.size → ¬ A a → H1[a]? = H[a]?) : XX K A U H1 := ⟨h.1, h.2.1, h.2.2.1, h.2.2.2.1.kept hq, h.2.2.2.2.1.kept hq, h.2.2.2.2.2⟩
theorem XX.narrow {K : Nat → ClassId} {A B : Nat → Prop} {U : State} {H : Heap} (h : XX K A U H) (hAB : ∀ q, B q → A q) : XX K B U H := ⟨h.1, h.2.1, h.2.2.1, h.2.2.2.1.narrow hAB, h.2.2.2.2.1.narrow hAB, h.2.2.2.2.2⟩
theorem XX.warm {K : Nat → ClassId} {A : Nat → Prop} {s U : State} {H : Heap} (hW : s.WarmedH U.vm) (h : XX K A s H) : XX K A U H := ⟨h.1.warm hW, h.2.1.warm hW, h.2.2.1.warm hW, vx_Zq.moved hW.alike h.2.2.2.1, vx_Zq.moved hW.alike h.2.2.2.2.1, va_Nc.moved hW.alike h.2.2.2.2.2⟩
theorem XX.same {K : Nat → ClassId} {A : Nat → Prop} {u U : State} {H : Heap} (hv : U.vm = u.vm) (h : XX K A u H) : XX K A U H := by
  have ha : u.vm.Alike U.vm := by rw [hv]; exact Vm.Alike.refl u.vm
  exact ⟨h.1.same hv.symm, h.2.1.same hv, h.2.2.1.same hv, vx_Zq.moved ha h.2.2.2.1, vx_Zq.moved ha h.2.2.2.2.1, va_Nc.moved ha h.2.2.2.2.2⟩
def PCx (D : va_G) (K : Nat → ClassId) (As : List Value) (ws : va_W) (sz : Nat) : Array Value → State → Prop :=
  va_Pc As (fun U => U.heap.size = sz ∧ va_P D vwCl ws U.heap ∧ va_K D vwCl (TYS K) U ∧ va_D (fun _ => True) ws ∧ SS K (va_A ws sz) U U.heap ∧ XX K (va_A ws sz) U U.heap)
def QX (D : va_G) (K : Nat → ClassId) (A : Nat → Prop) (E : String) (ws : va_W) : String → State → State → Prop := vx_X (fun u : va_W => u = ws) (fun E' u t => E' = E ∧ BW D K A u t) A
/-- it doesn't return -/
abbrev QN (D : va_G) (K : Nat → ClassId) (A : Nat → Prop) : Array Value → State → Outcome → State → Prop := va_Qi (fun (_ : Int32) (_ : va_W) => False) (BW D K A) A
/-- a method that throws E and changes nothing -/
def MX (l : Launch) (y : MethodName) (b : ByteArray) (n : Nat) (ret : Option FieldType) (rm : Room) (D : va_G) (K : Nat → ClassId) (As : List Value) (ws : va_W) (E : String) : Prop := ∀ sz, vx_Met l y (Wd y b n ret) rm (PCx D K As ws sz) (QN D K (va_A ws sz)) (QX D K (va_A ws sz) E ws) 1 6 (va_A ws sz)
theorem MX_of {l : Launch} {y : MethodName} {b : ByteArray} {n : Nat} {ret : Option FieldType} {rm : Room} {D : va_G} {K : Nat → ClassId} {As : List Value} {ws : va_W} {E : String} {loc0 : List (Nat × Value)} (hy : plainName y.cls = true) (hl0 : lv_args 0 As = loc0) (hn : (lg_sl As).length ≤ n)
    (h : ∀ (p : Program) (e : Env) (s : State) (m : MethodId) (args : Array Value) (below : List Frame) (meth : Method) (c : Code) (A : Nat → Prop), Cx p rm s m args meth c D K A y.cls b n ret 0 0 → XX K A s s.heap → (∀ x ∈ c.exceptionTable.toList, False) → WW p l e rm s m args below meth c D A n 0 0 (vx_MQ below (QN D K A) (QX D K A E ws) args s 1 6 A) ws loc0 [] 0) : MX l y b n ret rm D K As ws E := by
  intro sz
  refine vx_ofW (cc := b) (maxL := n) (ret := ret) hy rfl ?_
  intro p e s m args below meth c s₁ B hml ht hv
  obtain ⟨rfl, hsz, hP, hK, hD0, hSS, hxx⟩ := hv
  have hts := atoms_spec (ws := Wd y b n ret) B.pre
  subst hsz
  have hD := hD0.self (sz := s.heap.size)
  have hA : ∀ q : Nat, s.heap.size ≤ q → va_A ws s.heap.size q := fun q h => Or.inr h
  generalize va_A ws s.heap.size = A at hD hA hSS hxx ⊢
  have hl := lv_entry As (n := n) hn
  rw [lg_entry_eq]
  generalize (lg_sl As ++ List.replicate (n - (lg_sl As).length) Slot.unset).toArray = ls at hl ⊢
  rw [hl0] at hl
  exact h p e s m _ below meth c A ⟨B.exec, B.bytes, hml, findClass_of_methodNamed B.named, fun w hw => hts w (List.mem_cons_of_mem _ hw), B.returns, B.notSynchronized, hK, hA, Nat.zero_le _, Nat.zero_le _, hSS⟩ hxx ht s.heap [] ls hP hD va_S.rf hl
theorem wall_all {L : List Cond} (h : (L.filter goodWord).all (fun w => decide (w ∈ WALL)) = true) : ∀ w ∈ L.filter goodWord, w ∈ WALL := fun w hw => of_decide_eq_true (List.all_eq_true.mp h w hw)
theorem xbl_all {L : List Cond} (h : (L.filter (fun w => !goodWord w)).all (fun w => decide (w ∈ XBL)) = true) : ∀ w ∈ L.filter (fun w => !goodWord w), w ∈ XBL := fun w hw => of_decide_eq_true (List.all_eq_true.mp h w hw)
theorem thE_good : ((vx_atS "TwinThreads" 96 "java/lang/IndexOutOfBoundsException" nm2).filter goodWord).all (fun w => decide (w ∈ WALL)) = true := by decide +kernel
theorem thE_bad : ((vx_atS "TwinThreads" 96 "java/lang/IndexOutOfBoundsException" nm2).filter (fun w => !goodWord w)).all (fun w => decide (w ∈ XBL)) = true := by decide +kernel
theorem thE_ot : (Cond.classLink "TwinThreads" 92 "java/lang/IndexOutOfBoundsException" :: Cond.initialized "java/lang/IndexOutOfBoundsException" :: vx_atS "TwinThreads" 96 "java/lang/IndexOutOfBoundsException" nm2).all vx_ot = true := by decide +kernel
theorem thN_good : (((xn_atoms "TwinThreads" 125 "java/util/NoSuchElementException" "java/lang/RuntimeException" ["java/lang/Exception"] 13 sxB).filter vx_no).filter goodWord).all (fun w => decide (w ∈ WALL)) = true := by decide +kernel
theorem thN_bad : (((xn_atoms "TwinThreads" 125 "java/util/NoSuchElementException" "java/lang/RuntimeException" ["java/lang/Exception"] 13 sxB).filter vx_no).filter (fun w => !goodWord w)).all (fun w => decide (w ∈ XBL)) = true := by decide +kernel
theorem thN_ot : (Cond.classLink "TwinThreads" 121 "java/util/NoSuchElementException" :: Cond.initialized "java/util/NoSuchElementException" :: (xn_atoms "TwinThreads" 125 "java/util/NoSuchElementException" "java/lang/RuntimeException" ["java/lang/Exception"] 13 sxB).filter vx_no).all vx_ot = true := by decide +kernel
theorem th_links : [Cond.classLink "TwinThreads" 92 "java/lang/IndexOutOfBoundsException", Cond.initialized "java/lang/IndexOutOfBoundsException", Cond.classLink "TwinThreads" 121 "java/util/NoSuchElementException", Cond.initialized "java/util/NoSuchElementException"].all (fun w => decide (w ∈ WALL)) = true := by decide +kernel
theorem th_link {w : Cond} (h : w ∈ [Cond.classLink "TwinThreads" 92 "java/lang/IndexOutOfBoundsException", Cond.initialized "java/lang/IndexOutOfBoundsException", Cond.classLink "TwinThreads" 121 "java/util/NoSuchElementException", Cond.initialized "java/util/NoSuchElementException"]) : w ∈ WALL := of_decide_eq_true (List.all_eq_true.mp th_links w h)
