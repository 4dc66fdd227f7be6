/-! an exception whose constructor passes its text on by another place of its pool than 7 (NoSuchElementException): thrown, no traces kept. The steps follow the library's law for place 7. -/
def xn_atoms (own : String) (ic : Nat) (X Y : String) (r : List String) (idx : Nat) (bytes : ByteArray) : List Cond :=
  Bundle.throwableAtoms ++ Bundle.throwableSAtoms ++ (Bundle.passSAtoms X Y idx bytes ++ Bundle.chainSAtoms Y r) ++
  [.methodLink own ic (Bundle.initS X), .instantiable X 6, .castable X X, .selects X Bundle.tFill0 Bundle.tFill0, .selects X Bundle.tFill Bundle.tFill,
   .lays X Bundle.tN "cause" "Ljava/lang/Throwable;", .lays X Bundle.tN "stackTrace" Bundle.steD, .lays X Bundle.tN "suppressedExceptions" Bundle.listD, .lays X Bundle.tN "detailMessage" "Ljava/lang/String;",
   .isRef (.static Bundle.tN "UNASSIGNED_STACK" Bundle.steD), .isRef (.static Bundle.tN "SUPPRESSED_SENTINEL" Bundle.listD),
   .fieldLink Bundle.tN 198 Bundle.tN "backtrace" "Ljava/lang/Object;", .lays Bundle.tN Bundle.tN "backtrace" "Ljava/lang/Object;", .lays X Bundle.tN "backtrace" "Ljava/lang/Object;"]
section XN
variable {p : Program} {l : Launch} {e : Env} {R : Room} {s : State} {m₀ : MethodId} {args : Array Value} {below : List Frame} {meth : Method} {c : Code} {W : State} {locs : List Loc} {cells slots : Nat}
set_option maxHeartbeats 4000000 in
theorem xn_ctorS (X : Stand p l e R s m₀ args below meth c W locs cells slots) (hexec : p.tables.exec = Jvm.exec) (htr : e.platform.stackTraces = false) {own cls Y0 : String} {r : List String} {ic idx : Nat} {bytes : ByteArray}
    (hown : s.vm.findClass own = some m₀.cls) (hcls : Bundle.fit cls = true) (hY0 : Bundle.fit Y0 = true) (hnames : ∀ n ∈ r, Bundle.fit n = true)
    (b0 : decode bytes 0 = .ok (.aload_n 0, 1)) (b1 : decode bytes 1 = .ok (.aload_n 1, 1)) (b2 : decode bytes 2 = .ok (.invokespecial idx, 3)) (b5 : decode bytes 5 = .ok (.return_, 1))
    (h : ∀ a ∈ xn_atoms own ic cls Y0 r idx bytes, a.before args s = true)
    (hlocs : ∀ x ∈ locs, ∀ cell, s.heap[x.base]? = some cell → cell.vm.isStatics = false)
    {a : Addr} {cX : ClassId} {kX : Class} (hfoundX : s.vm.findClass cls = some cX) (hkX : s.vm.classes[cX]? = some kX) (hcell : W.heap[a]? = some (freshCell cX kX)) (hnew : s.heap.size ≤ a)
    {msg : Value} (hmsg : msg.isRef = true)
    {g : JFrame} (hg : g.method = m₀) (hsize : g.locals.size = c.maxLocals) (hlocked : g.locked = none) (hentered : g.entered = []) {rest : List Value} (hstack : g.stack = msg :: .ref a :: .ref a :: rest)
    (hd6 : decode c.code g.pc = .ok (.invokespecial ic, 3)) (hd9 : decode c.code (g.pc + 3) = .ok (.athrow, 1)) (hout : ∀ x ∈ c.exceptionTable.toList, covers x (g.pc + 3) = false)
    (hRframes : r.length + 4 < R.frames) (hRlocals : 2 * g.monitorRoom + ((Value.ref a :: rest).map fun v => v.category).sum + (13 * (r.length + 2) + 42) ≤ R.locals) (hlocks : meth.locks = false) :
    ∃ U : State, Steps p.tables e below (W.setTop g) U ∧ U.status = .running ∧ Ended U below (.threw a) ∧ s.WarmedH U.vm ∧ s.sameButNew ({ U with vm := s.vm } : State) locs cells slots ∧
      ∃ ce : Cell, U.heap[a]? = some ce ∧ ce.vm = .none ∧ s.vm.findClass cls = some ce.cls := by
  have howns : e.platform.frameOwnsMonitors = true := by rw [X.admits.platform]
  have hfin : e.platform.finalization = false := by rw [X.admits.platform]
  have hpl : e.platform.magicAccessors = ({} : Platform).magicAccessors := by rw [X.admits.platform]
  have a' : ∀ x, x ∈ xn_atoms own ic cls Y0 r idx bytes → x.holds args s none s [] = true := fun x hx => h x hx
  obtain ⟨T, Z0, L, -, Y⟩ := ThrowableC.of_atoms (args := args) howns hfin hpl (fun x hx => h x (by simp [xn_atoms, hx]))
  obtain ⟨Z, M, LZ, LM, hnZ⟩ := Init0T.ofS_atoms (args := args) hpl L Y (fun x hx => h x (by simp [xn_atoms, hx]))
  obtain ⟨P1, L1, hP1m, hP1s⟩ := PassC.ofS_atoms (args := args) (s := s) hpl (X := cls) (Y := Y0) (Bundle.fit_spec hcls).1 (Bundle.fit_spec hY0).2 b0 b1 b2 b5 (fun x hx => h x (by simp [xn_atoms, hx]))
  obtain ⟨P2, Qs, hlen0, L2, hL0, hP2m, hlink2, hlinkQ⟩ := Bundle.chainS (args := args) hpl hnZ r Y0 hY0 hnames (fun x hx => h x (by simp [xn_atoms, hx]))
  obtain ⟨Ps, hPs⟩ : ∃ Ps, Ps = P2 :: Qs := ⟨_, rfl⟩
  have hlen : Ps.length = r.length + 1 := by rw [hPs, List.length_cons, hlen0]
  have hL : ∀ P, P ∈ Ps → P.LinksS e.platform s := by
    intro P hP
    rw [hPs] at hP
    rcases List.mem_cons.mp hP with rfl | hP
    · exact L2
    · exact hL0 P hP
  have hlink1 : P1.sup = firstOf (Z.m T.toThrowableT) (Ps.map (·.toPassT)) := by rw [hPs]; exact Option.some.inj (hP1s.symm.trans hP2m)
  have hlink : PassesOn (Z.m T.toThrowableT) (Ps.map (·.toPassT)) := by rw [hPs]; exact ⟨hlink2, hlinkQ⟩
  have hfound : s.vm.findClass cls = some P1.m.cls := findClass_of_methodNamed hP1m
  cases Option.some.inj (hfoundX.symm.trans hfound)
  obtain ⟨c1, kX', hc1, hk, hord, -, -, hn6⟩ := Cond.instantiable_spec (a' (.instantiable cls 6) (by simp [xn_atoms]))
  cases Option.some.inj (hc1.symm.trans hfound)
  cases Option.some.inj (hkX.symm.trans hk)
  have sel : ∀ (q : MethodName) (mq : MethodId), Cond.selects cls q q ∈ xn_atoms own ic cls Y0 r idx bytes → s.methodNamed? q = some mq → (q.cls ≠ "java/lang/invoke/MethodHandle" ∧ q.cls ≠ "java/lang/invoke/VarHandle") → selectMethod e.platform s.vm P1.m.cls mq = .method mq := by
    intro q mq hq hm hni
    obtain ⟨c2, r2, m2, q1, q2, q3, q4, -⟩ := Cond.selects_spec (a' _ hq)
    cases Option.some.inj (q1.symm.trans hfound)
    cases Option.some.inj (q2.symm.trans (State.methodFound?_of_named hm hni))
    cases Option.some.inj (q3.symm.trans hm)
    rw [Launch.admits_selectMethod X.admits]; exact q4
  have sel1 := sel Bundle.tFill0 T.fill0 (by simp [xn_atoms]) Y.fill0 (by decide)
  have sel2 := sel Bundle.tFill T.fill (by simp [xn_atoms]) Y.fill (by decide)
  obtain ⟨cs0, hs0, iss0⟩ := Y.statics
  obtain ⟨va, hva⟩ := Cond.staticRefV Y.unassigned L.unassignedStatic L.statics hs0 iss0 (a' (.isRef (.static Bundle.tN "UNASSIGNED_STACK" Bundle.steD)) (by simp [xn_atoms]))
  obtain ⟨vs, hvs⟩ := Cond.staticRefV Y.sentinel L.sentinelStatic L.statics hs0 iss0 (a' (.isRef (.static Bundle.tN "SUPPRESSED_SENTINEL" Bundle.listD)) (by simp [xn_atoms]))
  obtain ⟨ci, ib, fb, hk1, hg1, ha1, hs1, -, hn1, ht1, hf1⟩ := Cond.ownField (t := .object "java/lang/Object") Y.found L.cls (by decide +kernel) (a' (.fieldLink Bundle.tN 198 Bundle.tN "backtrace" "Ljava/lang/Object;") (by simp [xn_atoms])) (a' (.lays Bundle.tN Bundle.tN "backtrace" "Ljava/lang/Object;") (by simp [xn_atoms])) e.platform hpl
  obtain ⟨cs, hcs, hes, -, hkeep⟩ := X.same.2.2.2.2.2 T.aS cs0 hs0
  have hcs' : W.heap[T.aS]? = some cs := hcs
  have hfree : ∀ i, (⟨T.aS, i⟩ : Loc) ∉ locs := fun i hi => by
    have h1 := hlocs _ hi cs0 hs0
    rw [iss0] at h1; cases h1
  have hkn : cs.vm ≠ .unknown := fun hu => by
    rw [hes] at hu
    rw [show cs0.vm = .unknown from hu] at iss0
    cases iss0
  have hna : T.aS ≠ a := Nat.ne_of_lt (Nat.lt_of_lt_of_le (Array.getElem?_eq_some_iff.mp hs0).1 hnew)
  obtain ⟨iM, hfM⟩ := Y.msg
  have lay : ∀ {f d c i k fd}, s.fieldFound? Bundle.tN f d = some (c, k, i, fd) → Cond.lays cls Bundle.tN f d ∈ xn_atoms own ic cls Y0 r idx bytes → _ := fun {f d c i k fd} hff hm => Cond.laysAt hfound hk hff (a' _ hm)
  obtain ⟨tC, dC, hdC, nC⟩ := lay Y.cause (by simp [xn_atoms])
  obtain ⟨tS, dS, hdS, nS⟩ := lay Y.stack (by simp [xn_atoms])
  obtain ⟨tP, dP, hdP, nP⟩ := lay Y.supp (by simp [xn_atoms])
  obtain ⟨tM, dM, hdM, nM⟩ := lay hfM (by simp [xn_atoms])
  obtain ⟨tB, dB, hdB, nB⟩ := lay hf1 (by simp [xn_atoms])
  have bC := Cond.laysApart hdB hdC nB nC (by rw [hn1, Y.causeName]; decide)
  have bS := Cond.laysApart hdB hdS nB nS (by rw [hn1, Y.stackName]; decide)
  have bP := Cond.laysApart hdB hdP nB nP (by rw [hn1, Y.suppName]; decide)
  have hsk : SkipFacts T e.platform s (fun u => u) va ((preparedCellV T.toThrowableT (freshCell P1.m.cls kX) a va vs).withEntry W.cur) :=
    ⟨{ ci198 := ci, i198 := ib, fBack := fb }, ⟨hk1, hg1, ha1, hs1⟩, by
      have h0 := fresh_default (c := P1.m.cls) tB
      rw [ht1] at h0
      simpa [preparedCellV, Cell.setSlot, Cell.withEntry, Array.getElem?_setIfInBounds, bC, bS, bP, bC.symm, bS.symm, bP.symm, defaultValue] using h0, fun _ _ => rfl⟩
  obtain ⟨tm, methC, cdC, kC, v1, hnC, -, -, -, -, -, -, -, hW1, st1⟩ := Steps.initColdS (tb := p.tables) (e := e) (below := below) (s := s) (U := W) X.here hexec X.warmed hpl hown (t := Bundle.initS cls) rfl rfl (Bundle.fit_spec hcls).2
    (a' (.methodLink own ic (Bundle.initS cls)) (by simp [xn_atoms])) (h (.instanceMethod (Bundle.initS cls)) (by simp [xn_atoms, Bundle.passSAtoms])) (bytes := bytes) (maxL := 2) (h (.code (Bundle.initS cls) bytes 2 none) (by simp [xn_atoms, Bundle.passSAtoms]))
    (f := g) hg (a := a) (msg := msg) (rest := .ref a :: rest) hstack hd6
  cases Option.some.inj (hnC.symm.trans hP1m)
  have X1 := X.noted hW1
  obtain ⟨v2, X2, st2⟩ := X1.ctorMessageOffV hexec (g := { g with stack := .ref a :: rest }) hg hsize T L Z LZ M LM (P1 :: Ps)
    (fun P hP => by rcases List.mem_cons.mp hP with rfl | hP; exact L1; exact hL P hP) ⟨hlink1, hlink⟩ (u0 := va) (sen := vs) (self := a) hmsg (cell := freshCell P1.m.cls kX) (cellS := cs)
    hcell (fun _ => by simp) (by simp) rfl rfl sel1 sel2 hcs' hna hkn (by rw [hkeep _ (hfree _)]; exact hva) (by rw [hkeep _ (hfree _)]; exact hvs)
    (Takes.of_laid hk hord tC (by rw [Y.causeType]; rfl)) (Takes.of_laid hk hord tS (by rw [Y.stackType]; exact fits_refV_array _ va)) (Takes.of_laid hk hord tP (by rw [Y.suppType]; exact fits_refV_object _ vs))
    (Takes.of_laid hk hord tM (by rw [Y.msgType]; exact fits_refV_object _ ⟨msg, hmsg⟩)) Y.objLocals hsk htr [] hd6
    (by simp only [List.length_cons, hlen]; omega) (by simp only [List.length_cons, hlen]; exact hRlocals)
  obtain ⟨hwalk, hrun, hended, hWU, hsame⟩ := X2.athrowLeaves hexec (g := { g with stack := .ref a :: rest, pc := g.pc + 3 }) hg hlocked hentered hout (a := a) (rest := rest) rfl hd9
  have hlt : a < ((W.setVm v1).setVm v2).heap.size := (Array.getElem?_eq_some_iff.mp hcell).1
  have hU := heapAt_setCell_self (s := (W.setVm v1).setVm v2) (plainBareV T.toThrowableT (freshCell P1.m.cls kX) a va vs msg) hlt
  refine ⟨_, st1 _ (fun acts => ?_), hrun, hended, hWU, hsame.weaken (fun y hy hlt' => ?_) (Nat.le_refl _) (Nat.le_refl _), _, hU, rfl, hfound⟩
  · rw [doInvoke_state]
    exact st2 _ hwalk
  · rcases List.mem_append.mp hy with h1 | h1
    · exact h1
    · exfalso
      have hb : y.base = a := by
        simp only [List.mem_cons, List.not_mem_nil, or_false] at h1
        rcases h1 with rfl | rfl | rfl | rfl | rfl <;> rfl
      rw [hb] at hlt'
      exact Nat.not_lt.mpr hnew hlt'
end XN
