
theorem wall_in {cw : Cond} (hc : cw ∈ WALL) : GoodIn WALL (cw :: WALL) := fun w hw => by
  have hm : w ∈ WALL := (List.mem_cons.mp hw).elim (fun h => h ▸ hc) id
  exact ⟨hm, good_of_word (List.mem_filter.mp hm).2⟩
abbrev TYS (K : Nat → ClassId) : List (ClassId × FieldType) := [(K 0, .int), (K 1, .byte), (K 2, .boolean), (K 3, .long)]
abbrev aI (K : Nat → ClassId) (n : Nat) (f : Nat → Int32) : va_E := .inl (K 0, n, .inl f)
abbrev aB (K : Nat → ClassId) (n : Nat) (f : Nat → Int32) : va_E := .inl (K 1, n, .inl f)
abbrev aZ (K : Nat → ClassId) (n : Nat) (f : Nat → Int32) : va_E := .inl (K 2, n, .inl f)
abbrev aJ (K : Nat → ClassId) (n : Nat) (f : Nat → Int64) : va_E := .inl (K 3, n, .inr (.inl f))
abbrev ob (ci : Nat) (fs : List Value) : va_E := .inr (ci, fs)
def txS : List String := ["span  s  slack lh queuesqqqtries t  seed  v  data  dv at    n  ", "halt     set   rv add   rrrsub   rrrmul   rrrxor   rrrload  rrmstore rrmout   r  ", "real  fr whole rf bits  rf plus  ffftimes fffjump  w  zero  rw less  rrwunder ffw", "span slack queues tries seed data at set add sub mul xor load store out real whole bits plus times jump zero less under halt "]
theorem ofWF {y : MethodName} {ws ws' : List Cond} {rm : Room} {l : Launch} {Pc : Array Value → State → Prop} {Qc : Array Value → State → Outcome → State → Prop} {mc ms : Nat} {free : Addr → Prop} {cc : ByteArray} {maxL : Nat} {ret : Option FieldType}
    (hy : plainFor y = true) (hw : ws = Cond.code y cc maxL ret :: ws')
    (body : ∀ p e s m args below meth c s₁, BodyLoose p l y (headSpec ws rm) cc maxL ret e s m args below meth c s₁ → c.maxLocals = maxL → Pc args s →
      W p l e (headSpec ws rm).room s m args below meth c s.heap [] 0 0 (MQ below Qc args s mc ms free) (entryFrame m args maxL)) : Met l y ws rm Pc Qc mc ms free := by
  refine MetFree.of_bodySF (code := cc) (maxLocals := maxL) (ret := ret) hy ?_ ?_
  · intro args s m h hn
    obtain ⟨meth, c, h1, h2, h3, h4, h5, h6, -, -⟩ := Cond.code_spec hn (atoms_spec (ws := ws) h _ (by rw [hw]; exact List.mem_cons_self))
    exact ⟨meth, c, h1, h2, h3, h4, h5, h6⟩
  · intro p e s m args below meth c s₁ B hml hP _
    have hh0 : s₁.heap = s.heap := by rw [B.state]; rfl
    obtain ⟨t, a1, o, b1, b2, b3⟩ := body p e s m args below meth c s₁ B hml hP s₁ hh0 (Stand.of_body B)
    exact ⟨t, o, a1, b1, b2, ⟨b3.1, b3.2⟩⟩
/-- the String constants that are read, and two statics, none of which a method writes -/
def SS (K : Nat → ClassId) (A : Nat → Prop) (U : State) (H : Heap) : Prop :=
  vk_S 4 lenS bytS (fun i => K (10 + i)) (fun i => K (20 + i)) A U H ∧ va_Z "java/lang/String" "COMPACT_STRINGS" "Z" (.int 1) A U H ∧ (∃ v, (v = Value.null ∨ ∃ a, v = Value.ref a) ∧ va_Z "jdk/internal/util/Preconditions" "SIOOBE_FORMATTER" "Ljava/util/function/BiFunction;" v A U H) ∧
  vk_R "TwinThreads$Reader" 32 "span  s  slack lh queuesqqqtries t  seed  v  data  dv at    n  " (K 10) U ∧ vk_R "TwinThreads$Reader" 38 "halt     set   rv add   rrrsub   rrrmul   rrrxor   rrrload  rrmstore rrmout   r  " (K 11) U ∧ vk_R "TwinThreads$Reader" 40 "real  fr whole rf bits  rf plus  ffftimes fffjump  w  zero  rw less  rrwunder ffw" (K 12) U ∧ vk_R "TwinThreadsModel" 129 "span slack queues tries seed data at set add sub mul xor load store out real whole bits plus times jump zero less under halt " (K 13) U
theorem SS.kept {K : Nat → ClassId} {A : Nat → Prop} {U : State} {H H1 : Heap} (h : SS K A U H) (hq : ∀ a : Nat, a < H.size → ¬ A a → H1[a]? = H[a]?) : SS K A U H1 :=
  ⟨h.1.kept hq, h.2.1.kept hq, ⟨h.2.2.1.choose, h.2.2.1.choose_spec.1, h.2.2.1.choose_spec.2.kept hq⟩, h.2.2.2⟩
theorem SS.narrow {K : Nat → ClassId} {A B : Nat → Prop} {U : State} {H : Heap} (h : SS K A U H) (hAB : ∀ q, B q → A q) : SS K B U H :=
  ⟨h.1.narrow hAB, h.2.1.narrow hAB, ⟨h.2.2.1.choose, h.2.2.1.choose_spec.1, h.2.2.1.choose_spec.2.narrow hAB⟩, h.2.2.2⟩
theorem SS.warm {K : Nat → ClassId} {A : Nat → Prop} {s U : State} {H : Heap} (hW : s.WarmedH U.vm) (h : SS K A s H) : SS K A U H :=
  ⟨h.1.moved hW.alike, h.2.1.moved hW.alike, ⟨h.2.2.1.choose, h.2.2.1.choose_spec.1, h.2.2.1.choose_spec.2.moved hW.alike⟩, h.2.2.2.1.warm hW, h.2.2.2.2.1.warm hW, h.2.2.2.2.2.1.warm hW, h.2.2.2.2.2.2.warm hW⟩
theorem SS.same {K : Nat → ClassId} {A : Nat → Prop} {u U : State} {H : Heap} (hv : U.vm = u.vm) (h : SS K A u H) : SS K A U H := by
  have ha : u.vm.Alike U.vm := by rw [hv]; exact Vm.Alike.refl u.vm
  exact ⟨h.1.moved ha, h.2.1.moved ha, ⟨h.2.2.1.choose, h.2.2.1.choose_spec.1, h.2.2.1.choose_spec.2.moved ha⟩, h.2.2.2.1.same hv, h.2.2.2.2.1.same hv, h.2.2.2.2.2.1.same hv, h.2.2.2.2.2.2.same hv⟩
/-- what stays through a method's walk -/
def Cx (p : Program) (R : Room) (s : State) (m : MethodId) (args : Array Value) (meth : Method) (c : Code) (D : va_G) (K : Nat → ClassId) (A : Nat → Prop) (own : String) (cc : ByteArray) (nL : Nat) (ret : Option FieldType) (cells slots : Nat) : Prop :=
  p.tables.exec = Jvm.exec ∧ c.code = cc ∧ c.maxLocals = nL ∧ s.vm.findClass own = some m.cls ∧ (∀ w ∈ WALL, w.before args s = true) ∧ meth.sig.returnType = ret ∧ meth.locks = false ∧ va_K D vwCl (TYS K) s ∧ (∀ q, s.heap.size ≤ q → A q) ∧ cells ≤ R.cells ∧ slots ≤ R.slots ∧ SS K A s s.heap
/-- the walk at a place: whatever the heap is that holds the world -/
def WW (p : Program) (l : Launch) (e : Env) (R : Room) (s : State) (m : MethodId) (args : Array Value) (below : List Frame) (meth : Method) (c : Code) (D : va_G) (A : Nat → Prop) (nL cells slots : Nat) (Q : State → Prop) (ws : va_W) (loc : List (Nat × Value)) (st : List Value) (pc : Nat) : Prop :=
  ∀ (H : Heap) (locs : List Loc) (ls : Array Slot), va_P D vwCl ws H → va_D A ws → va_S A s.heap H locs → lv_has ls nL loc → W p l e R s m args below meth c H locs cells slots Q (F0 m pc ls st)
abbrev Wd (y : MethodName) (b : ByteArray) (n : Nat) (ret : Option FieldType) : List Cond := .code y b n ret :: WALL
def PCd (D : va_G) (K : Nat → ClassId) (As : List Value) (ws : va_W) (sz : Nat) : Array Value → State → Prop :=
  va_Pc As (fun U => U.heap.size = sz ∧ va_P D vwCl ws U.heap ∧ va_K D vwCl (TYS K) U ∧ va_D (fun _ => True) ws ∧ SS K (va_A ws sz) U U.heap)
def BW (D : va_G) (K : Nat → ClassId) (A : Nat → Prop) (u : va_W) (t : State) : Prop := va_P D vwCl u t.heap ∧ va_K D vwCl (TYS K) t ∧ va_D A u
def QI (D : va_G) (K : Nat → ClassId) (A : Nat → Prop) (r : Int32) (ws' : va_W) : Array Value → State → Outcome → State → Prop := va_Qi (fun r' u => r' = r ∧ u = ws') (BW D K A) A
def QJ (D : va_G) (K : Nat → ClassId) (A : Nat → Prop) (r : Int64) (ws' : va_W) : Array Value → State → Outcome → State → Prop := va_Ql (fun r' u => r' = r ∧ u = ws') (BW D K A) A
def QD (D : va_G) (K : Nat → ClassId) (A : Nat → Prop) (r : UInt64) (ws' : va_W) : Array Value → State → Outcome → State → Prop := va_Qd (fun r' u => r' = r ∧ u = ws') (BW D K A) A
def QF (D : va_G) (K : Nat → ClassId) (A : Nat → Prop) (r : UInt32) (ws' : va_W) : Array Value → State → Outcome → State → Prop := va_Qf (fun r' u => r' = r ∧ u = ws') (BW D K A) A
def QV (D : va_G) (K : Nat → ClassId) (A : Nat → Prop) (ws' : va_W) : Array Value → State → Outcome → State → Prop := va_Qv (fun u => u = ws') (BW D K A) A
def QR (D : va_G) (K : Nat → ClassId) (A : Nat → Prop) (r : Nat) (ws' : va_W) : Array Value → State → Outcome → State → Prop := va_Qr (fun u => u = ws') (fun u a t => a = r ∧ BW D K A u t) A
def MI (l : Launch) (y : MethodName) (b : ByteArray) (n : Nat) (ret : Option FieldType) (rm : Room) (D : va_G) (K : Nat → ClassId) (As : List Value) (ws : va_W) (r : Int32) (ws' : va_W) : Prop := ∀ sz, Met l y (Wd y b n ret) rm (PCd D K As ws sz) (QI D K (va_A ws sz) r ws') 0 0 (va_A ws sz)
def MJ (l : Launch) (y : MethodName) (b : ByteArray) (n : Nat) (ret : Option FieldType) (rm : Room) (D : va_G) (K : Nat → ClassId) (As : List Value) (ws : va_W) (r : Int64) (ws' : va_W) : Prop := ∀ sz, Met l y (Wd y b n ret) rm (PCd D K As ws sz) (QJ D K (va_A ws sz) r ws') 0 0 (va_A ws sz)
def MD (l : Launch) (y : MethodName) (b : ByteArray) (n : Nat) (ret : Option FieldType) (rm : Room) (D : va_G) (K : Nat → ClassId) (As : List Value) (ws : va_W) (r : UInt64) (ws' : va_W) : Prop := ∀ sz, Met l y (Wd y b n ret) rm (PCd D K As ws sz) (QD D K (va_A ws sz) r ws') 0 0 (va_A ws sz)
def MV (l : Launch) (y : MethodName) (b : ByteArray) (n : Nat) (ret : Option FieldType) (rm : Room) (D : va_G) (K : Nat → ClassId) (As : List Value) (ws : va_W) (ws' : va_W) : Prop := ∀ sz, Met l y (Wd y b n ret) rm (PCd D K As ws sz) (QV D K (va_A ws sz) ws') 0 0 (va_A ws sz)
def MR (l : Launch) (y : MethodName) (b : ByteArray) (n : Nat) (ret : Option FieldType) (rm : Room) (D : va_G) (K : Nat → ClassId) (As : List Value) (ws : va_W) (r : Nat) (ws' : va_W) : Prop := ∀ sz, Met l y (Wd y b n ret) rm (PCd D K As ws sz) (QR D K (va_A ws sz) r ws') 0 0 (va_A ws sz)
def YOk (y : MethodName) (n : Nat) : Prop := y.cls ≠ "java/lang/invoke/MethodHandle" ∧ y.cls ≠ "java/lang/invoke/VarHandle" ∧ (parseMethodDescriptor y.desc).map (fun d => d.parameters.length) = some n
/-- a method that is called on an object / a static one -/
def YV (y : MethodName) (b : ByteArray) (n : Nat) (ret : Option FieldType) (k : Nat) : Prop := YOk y k ∧ Cond.code y b n ret ∈ WALL ∧ Cond.initialized y.cls ∈ WALL ∧ Cond.instanceMethod y ∈ WALL ∧ Cond.selects y.cls y y ∈ WALL
def YS (y : MethodName) (b : ByteArray) (n : Nat) (ret : Option FieldType) (k : Nat) : Prop := YOk y k ∧ Cond.code y b n ret ∈ WALL ∧ Cond.initialized y.cls ∈ WALL ∧ Cond.static y ∈ WALL
/-- a class: its place, its words, its fields -/
def CF (ci : Nat) (C : String) (T : u_T) (N : Nat) (ty : Nat → FieldType) : Prop := vwCl[ci]? = some (C, T, N) ∧ (∀ w ∈ u_ws C T N, w ∈ WALL) ∧ (∀ k, k < N → parseFieldDescriptor (T k).2.2.1 = some (ty k)) ∧ (∀ a, a < N → ∀ b, b < N → a ≠ b → (T a).2.1 ≠ (T b).2.1)
def va_rep : va_W → List Nat → va_W → va_W
  | ws, i :: is, c :: cs => va_rep (ws.set i c) is cs
  | ws, [], _ => ws
  | ws, _ :: _, [] => ws
theorem va_rep_at : ∀ (is : List Nat) (w1 ws : va_W), is.length = w1.length → (∀ i ∈ is, i < ws.length) → ∀ (k : Nat) (q : Nat × va_E), (va_rep ws is w1)[k]? = some q → (∃ j : Nat, is[j]? = some k ∧ w1[j]? = some q) ∨ (k ∉ is ∧ ws[k]? = some q)
  | [], _, ws, _, _, k, q, h => Or.inr ⟨List.not_mem_nil, by simpa [va_rep] using h⟩
  | _ :: _, [], _, hl, _, _, _, _ => by simp at hl
  | i :: is, c :: cs, ws, hl, hlt, k, q, h => by
    have h' : (va_rep (ws.set i c) is cs)[k]? = some q := h
    rcases va_rep_at is cs (ws.set i c) (by simpa using hl) (fun j hj => by rw [List.length_set]; exact hlt j (List.mem_cons_of_mem _ hj)) k q h' with ⟨j, h1, h2⟩ | ⟨h1, h2⟩
    · exact Or.inl ⟨j + 1, by simpa using h1, by simpa using h2⟩
    · by_cases e : i = k
      · subst e
        rw [List.getElem?_set_self (hlt _ List.mem_cons_self)] at h2
        exact Or.inl ⟨0, rfl, by simpa using h2⟩
      · rw [List.getElem?_set_ne e] at h2
        exact Or.inr ⟨by simp only [List.mem_cons, not_or]; exact ⟨fun h => e h.symm, h1⟩, h2⟩
theorem va_rep_PD {A0 : Nat → Prop} {D : va_G} {cl : List vw_C} {ws wc w1 : va_W} {H H1 : Heap} (hP : va_P D cl ws H) (hD : va_D A0 ws) (isC : List Nat) (hC : isC.map (fun i => ws[i]?) = wc.map some) (ha : w1.map (·.1) = wc.map (·.1))
    (hk : ∀ q : Nat, q < H.size → ¬ va_A wc H.size q → H1[q]? = H[q]?) (hP1 : va_P D cl w1 H1) : va_P D cl (va_rep ws isC w1) H1 ∧ va_D A0 (va_rep ws isC w1) := by
  have hlen : isC.length = wc.length := by have := congrArg List.length hC; simpa using this
  have hlen1 : w1.length = wc.length := by have := congrArg List.length ha; simpa using this
  have hat : ∀ (j k : Nat), isC[j]? = some k → ∃ q : Nat × va_E, wc[j]? = some q ∧ ws[k]? = some q := by
    intro j k hj
    have h1 : (isC.map (fun i => ws[i]?))[j]? = some (ws[k]?) := by rw [List.getElem?_map, hj]; rfl
    rw [hC, List.getElem?_map] at h1
    cases hw : wc[j]? with
    | none => rw [hw] at h1; cases h1
    | some q => rw [hw] at h1; exact ⟨q, rfl, (Option.some.inj h1).symm⟩
  have hlt : ∀ i ∈ isC, i < ws.length := by
    intro i hi
    obtain ⟨j, hj⟩ := List.getElem?_of_mem hi
    obtain ⟨q, -, h2⟩ := hat j i hj
    exact (List.getElem?_eq_some_iff.mp h2).1
  have key := va_rep_at isC w1 ws (by rw [hlen, hlen1]) hlt
  have hadr : ∀ (k : Nat) (q : Nat × va_E), (va_rep ws isC w1)[k]? = some q → ∃ q', ws[k]? = some q' ∧ q'.1 = q.1 := by
    intro k q h
    rcases key k q h with ⟨j, h1, h2⟩ | ⟨-, h2⟩
    · obtain ⟨q', h3, h4⟩ := hat j k h1
      refine ⟨q', h4, ?_⟩
      have e1 : (w1.map (·.1))[j]? = some q.1 := by rw [List.getElem?_map, h2]; rfl
      have e2 : (wc.map (·.1))[j]? = some q'.1 := by rw [List.getElem?_map, h3]; rfl
      rw [ha, e2] at e1
      exact Option.some.inj e1
    · exact ⟨q, h2, rfl⟩
  refine ⟨fun k q h => ?_, ⟨fun i j x y hx hy hxy => ?_, fun k q h => ?_⟩⟩
  · rcases key k q h with ⟨j, -, h2⟩ | ⟨h1, h2⟩
    · exact hP1 j q h2
    · refine (hP k q h2).kept (hk q.1 (hP k q h2).lt ?_)
      rintro (⟨j, e, hj⟩ | hge)
      · have hjl : j < isC.length := by rw [hlen]; exact (List.getElem?_eq_some_iff.mp hj).1
        obtain ⟨q2, g1, g2⟩ := hat j isC[j] (List.getElem?_eq_getElem hjl)
        rw [hj] at g1
        have e1 := Option.some.inj g1
        subst e1
        have hkk := hD.1 k isC[j] q (q.1, e) h2 g2 rfl
        exact h1 (hkk ▸ List.getElem_mem hjl)
      · exact absurd (hP k q h2).lt (Nat.not_lt.mpr hge)
  · obtain ⟨x', h1, h2⟩ := hadr i x hx
    obtain ⟨y', h3, h4⟩ := hadr j y hy
    exact hD.1 i j x' y' h1 h3 (by rw [h2, h4, hxy])
  · obtain ⟨q', h1, h2⟩ := hadr k q h
    exact h2 ▸ hD.2 k q' h1
def Fr (wc w1 : va_W) : va_W → va_W → List (Option Nat) → Prop
  | [], [], [] => True
  | a :: ws, b :: ws', none :: ms => a = b ∧ Fr wc w1 ws ws' ms
  | a :: ws, b :: ws', some j :: ms => (wc[j]? = some a ∧ w1[j]? = some b ∧ b.1 = a.1) ∧ Fr wc w1 ws ws' ms
  | _, _, _ => False
theorem fr_n {wc w1 : va_W} : Fr wc w1 [] [] [] := trivial
theorem fr_k {wc w1 ws ws' : va_W} {ms : List (Option Nat)} {a : Nat × va_E} (t : Fr wc w1 ws ws' ms) : Fr wc w1 (a :: ws) (a :: ws') (none :: ms) := ⟨rfl, t⟩
theorem fr_s {wc w1 ws ws' : va_W} {ms : List (Option Nat)} {a b : Nat × va_E} {j : Nat} (h1 : wc[j]? = some a) (h2 : w1[j]? = some b) (h3 : b.1 = a.1) (t : Fr wc w1 ws ws' ms) : Fr wc w1 (a :: ws) (b :: ws') (some j :: ms) := ⟨⟨h1, h2, h3⟩, t⟩
theorem fr_at {wc w1 : va_W} : ∀ {ws ws' : va_W} {ms : List (Option Nat)}, Fr wc w1 ws ws' ms → (∀ (k : Nat) (q : Nat × va_E), ws'[k]? = some q → (ms[k]? = some none ∧ ws[k]? = some q) ∨ ∃ (j : Nat) (p : Nat × va_E), ms[k]? = some (some j) ∧ ws[k]? = some p ∧ wc[j]? = some p ∧ w1[j]? = some q ∧ q.1 = p.1) ∧ (∀ (k j : Nat), ms[k]? = some (some j) → ∃ p : Nat × va_E, ws[k]? = some p ∧ wc[j]? = some p)
  | [], [], [], _ => ⟨fun k q h => by simp at h, fun k j h => by simp at h⟩
  | a :: ws, b :: ws', none :: ms, h => by
    obtain ⟨h0, h⟩ := h
    subst h0
    obtain ⟨h1, h2⟩ := fr_at h
    refine ⟨fun k q hq => ?_, fun k j hj => ?_⟩
    · cases k with
      | zero => exact Or.inl ⟨rfl, hq⟩
      | succ k => simpa using h1 k q (by simpa using hq)
    · cases k with
      | zero => simp at hj
      | succ k => simpa using h2 k j (by simpa using hj)
  | a :: ws, b :: ws', some j0 :: ms, h => by
    obtain ⟨⟨g1, g2, g3⟩, h⟩ := h
    obtain ⟨h1, h2⟩ := fr_at h
    refine ⟨fun k q hq => ?_, fun k j hj => ?_⟩
    · cases k with
      | zero => obtain rfl : b = q := by simpa using hq
                exact Or.inr ⟨j0, a, rfl, rfl, g1, g2, g3⟩
      | succ k => simpa using h1 k q (by simpa using hq)
    · cases k with
      | zero => obtain rfl : j0 = j := by simpa using hj
                exact ⟨a, rfl, g1⟩
      | succ k => simpa using h2 k j (by simpa using hj)
  | [], _ :: _, _, h => h.elim
  | [], [], _ :: _, h => h.elim
  | _ :: _, [], _, h => h.elim
  | _ :: _, _ :: _, [], h => h.elim
/-- each of the n places is marked -/
def cov (ms : List (Option Nat)) (n : Nat) : Bool := (List.range n).all (fun j => ms.contains (some j))
theorem cov_at {ms : List (Option Nat)} {n : Nat} (h : cov ms n = true) {j : Nat} (hj : j < n) : ∃ k : Nat, ms[k]? = some (some j) := by
  have h1 := List.all_eq_true.mp h j (List.mem_range.mpr hj)
  have h2 : some j ∈ ms := by simpa using h1
  exact List.getElem?_of_mem h2
theorem fr_PD {A0 : Nat → Prop} {D : va_G} {cl : List vw_C} {ws ws' wc w1 : va_W} {ms : List (Option Nat)} {n : Nat} {H : Heap} (hF : Fr wc w1 ws ws' ms) (hn : wc.length = n) (hcov : cov ms n = true) (hP : va_P D cl ws H) (hD : va_D A0 ws) :
    va_P D cl wc H ∧ va_D (fun _ => True) wc ∧ (∀ (hA : ∀ q, H.size ≤ q → A0 q) q, va_A wc H.size q → A0 q) ∧ ∀ H1 : Heap, (∀ q : Nat, q < H.size → ¬ va_A wc H.size q → H1[q]? = H[q]?) → va_P D cl w1 H1 → va_P D cl ws' H1 ∧ va_D A0 ws' := by
  obtain ⟨f1, f2⟩ := fr_at hF
  have at' : ∀ (j : Nat) (q : Nat × va_E), wc[j]? = some q → ∃ k : Nat, ms[k]? = some (some j) ∧ ws[k]? = some q := by
    intro j q hq
    obtain ⟨k, hk⟩ := cov_at hcov (j := j) (by rw [← hn]; exact (List.getElem?_eq_some_iff.mp hq).1)
    obtain ⟨p, g1, g2⟩ := f2 k j hk
    rw [hq] at g2
    exact ⟨k, hk, by rw [g1, Option.some.inj g2]⟩
  refine ⟨fun j q hq => ?_, ⟨fun i j p q hp hq e => ?_, fun _ _ _ => trivial⟩, fun hA q hq => ?_, fun H1 hk hP1 => ⟨fun k q hq => ?_, ⟨fun i j x y hx hy hxy => ?_, fun k q hq => ?_⟩⟩⟩
  · obtain ⟨k, -, h2⟩ := at' j q hq
    exact hP k q h2
  · obtain ⟨k1, g1, g2⟩ := at' i p hp
    obtain ⟨k2, g3, g4⟩ := at' j q hq
    obtain rfl := hD.1 k1 k2 p q g2 g4 e
    rw [g1] at g3
    exact Option.some.inj (Option.some.inj g3)
  · rcases hq with ⟨j, e, hj⟩ | hge
    · obtain ⟨k, -, h2⟩ := at' j (q, e) hj
      exact hD.2 k (q, e) h2
    · exact hA q hge
  · rcases f1 k q hq with ⟨h1, h2⟩ | ⟨j, p, h1, h2, h3, h4, h5⟩
    · refine (hP k q h2).kept (hk q.1 (hP k q h2).lt ?_)
      rintro (⟨j, e, hj⟩ | hge)
      · obtain ⟨k2, g1, g2⟩ := at' j (q.1, e) hj
        obtain rfl := hD.1 k k2 q (q.1, e) h2 g2 rfl
        rw [h1] at g1
        cases Option.some.inj g1
      · exact absurd (hP k q h2).lt (Nat.not_lt.mpr hge)
    · exact hP1 j q h4
  · have adr : ∀ (k : Nat) (q : Nat × va_E), ws'[k]? = some q → ∃ p : Nat × va_E, ws[k]? = some p ∧ p.1 = q.1 := by
      intro k q hq
      rcases f1 k q hq with ⟨-, h2⟩ | ⟨j, p, -, h2, -, -, h5⟩
      · exact ⟨q, h2, rfl⟩
      · exact ⟨p, h2, h5.symm⟩
    obtain ⟨x', h1, h2⟩ := adr i x hx
    obtain ⟨y', h3, h4⟩ := adr j y hy
    exact hD.1 i j x' y' h1 h3 (by rw [h2, h4, hxy])
  · rcases f1 k q hq with ⟨-, h2⟩ | ⟨j, p, -, h2, -, -, h5⟩
    · exact hD.2 k q h2
    · rw [h5]; exact hD.2 k p h2
-- pure words
theorem inj1 {α : Type} {a b : α} (h : some a = some b) : a = b := Option.some.inj h
theorem inj2 {α0 α1 : Type} {a0 b0 : α0} {a1 b1 : α1} (h : some (a0, a1) = some (b0, b1)) : a0 = b0 ∧ a1 = b1 := by
  have h := Option.some.inj h
  simp only [Prod.mk.injEq] at h
  exact h
theorem inj3 {α0 α1 α2 : Type} {a0 b0 : α0} {a1 b1 : α1} {a2 b2 : α2} (h : some (a0, a1, a2) = some (b0, b1, b2)) : a0 = b0 ∧ a1 = b1 ∧ a2 = b2 := by
  have h := Option.some.inj h
  simp only [Prod.mk.injEq] at h
  exact h
theorem inj4 {α0 α1 α2 α3 : Type} {a0 b0 : α0} {a1 b1 : α1} {a2 b2 : α2} {a3 b3 : α3} (h : some (a0, a1, a2, a3) = some (b0, b1, b2, b3)) : a0 = b0 ∧ a1 = b1 ∧ a2 = b2 ∧ a3 = b3 := by
  have h := Option.some.inj h
  simp only [Prod.mk.injEq] at h
  exact h
theorem inj5 {α0 α1 α2 α3 α4 : Type} {a0 b0 : α0} {a1 b1 : α1} {a2 b2 : α2} {a3 b3 : α3} {a4 b4 : α4} (h : some (a0, a1, a2, a3, a4) = some (b0, b1, b2, b3, b4)) : a0 = b0 ∧ a1 = b1 ∧ a2 = b2 ∧ a3 = b3 ∧ a4 = b4 := by
  have h := Option.some.inj h
  simp only [Prod.mk.injEq] at h
  exact h
theorem inj6 {α0 α1 α2 α3 α4 α5 : Type} {a0 b0 : α0} {a1 b1 : α1} {a2 b2 : α2} {a3 b3 : α3} {a4 b4 : α4} {a5 b5 : α5} (h : some (a0, a1, a2, a3, a4, a5) = some (b0, b1, b2, b3, b4, b5)) : a0 = b0 ∧ a1 = b1 ∧ a2 = b2 ∧ a3 = b3 ∧ a4 = b4 ∧ a5 = b5 := by
  have h := Option.some.inj h
  simp only [Prod.mk.injEq] at h
  exact h
theorem inj7 {α0 α1 α2 α3 α4 α5 α6 : Type} {a0 b0 : α0} {a1 b1 : α1} {a2 b2 : α2} {a3 b3 : α3} {a4 b4 : α4} {a5 b5 : α5} {a6 b6 : α6} (h : some (a0, a1, a2, a3, a4, a5, a6) = some (b0, b1, b2, b3, b4, b5, b6)) : a0 = b0 ∧ a1 = b1 ∧ a2 = b2 ∧ a3 = b3 ∧ a4 = b4 ∧ a5 = b5 ∧ a6 = b6 := by
  have h := Option.some.inj h
  simp only [Prod.mk.injEq] at h
  exact h
theorem inj8 {α0 α1 α2 α3 α4 α5 α6 α7 : Type} {a0 b0 : α0} {a1 b1 : α1} {a2 b2 : α2} {a3 b3 : α3} {a4 b4 : α4} {a5 b5 : α5} {a6 b6 : α6} {a7 b7 : α7} (h : some (a0, a1, a2, a3, a4, a5, a6, a7) = some (b0, b1, b2, b3, b4, b5, b6, b7)) : a0 = b0 ∧ a1 = b1 ∧ a2 = b2 ∧ a3 = b3 ∧ a4 = b4 ∧ a5 = b5 ∧ a6 = b6 ∧ a7 = b7 := by
  have h := Option.some.inj h
  simp only [Prod.mk.injEq] at h
  exact h
theorem inj9 {α0 α1 α2 α3 α4 α5 α6 α7 α8 : Type} {a0 b0 : α0} {a1 b1 : α1} {a2 b2 : α2} {a3 b3 : α3} {a4 b4 : α4} {a5 b5 : α5} {a6 b6 : α6} {a7 b7 : α7} {a8 b8 : α8} (h : some (a0, a1, a2, a3, a4, a5, a6, a7, a8) = some (b0, b1, b2, b3, b4, b5, b6, b7, b8)) : a0 = b0 ∧ a1 = b1 ∧ a2 = b2 ∧ a3 = b3 ∧ a4 = b4 ∧ a5 = b5 ∧ a6 = b6 ∧ a7 = b7 ∧ a8 = b8 := by
  have h := Option.some.inj h
  simp only [Prod.mk.injEq] at h
  exact h
theorem nar_z {x : Int32} (h : isB x) : narrow .boolean (.int x) = .int x := by rcases h with rfl | rfl <;> rfl
theorem fit_z {x : Int32} (h : isB x) : fits .boolean (.int x) = true := by rcases h with rfl | rfl <;> rfl
theorem ix_and3 (x : Int32) : ix (x &&& 3) 4 := pk_andIn x 2 (by decide) (by decide)
theorem ix_and7 (x : Int32) : ix (x &&& 7) 8 := pk_andIn x 3 (by decide) (by decide)
theorem ix_and15 (x : Int32) : ix (x &&& 15) 16 := pk_andIn x 4 (by decide) (by decide)
theorem ix_and31 (x : Int32) : ix (x &&& 31) 32 := pk_andIn x 5 (by decide) (by decide)
theorem ix_and63 (x : Int32) : ix (x &&& 63) 64 := pk_andIn x 6 (by decide) (by decide)
theorem pfd_I : parseFieldDescriptor "I" = some .int := by decide +kernel
theorem pfd_Z : parseFieldDescriptor "Z" = some .boolean := by decide +kernel
theorem pfd_Pg : parseFieldDescriptor "LTwinThreads$Program;" = some (.object "TwinThreads$Program") := by decide +kernel
theorem toInt_ne {x v : Int32} (h : ¬ x = v) : x.toInt ≠ v.toInt := fun e => h (Int32.toInt_inj.mp e)
theorem filterMap_of {ws : va_W} : ∀ (isC : List Nat) (wc : va_W), isC.map (fun i => ws[i]?) = wc.map some → isC.filterMap (fun i => ws[i]?) = wc
  | [], [], _ => rfl
  | [], _ :: _, h => by simp at h
  | _ :: _, [], h => by simp at h
  | i :: is, c :: cs, h => by
    have h1 := (List.cons.inj h).1
    have h2 := (List.cons.inj h).2
    rw [List.filterMap_cons_some h1, filterMap_of is cs h2]
section MYROWS
variable {p : Program} {l : Launch} {e : Env} {R : Room} {s : State} {m : MethodId} {args : Array Value} {below : List Frame} {meth : Method} {c : Code} {D : va_G} {K : Nat → ClassId} {A : Nat → Prop} {own : String} {cc : ByteArray} {nL pc : Nat} {ret : Option FieldType} {cells slots : Nat} {Q : State → Prop} {ws ws' : va_W} {loc loc' : List (Nat × Value)} {st : List Value}
theorem r_iconst (cx : Cx p R s m args meth c D K A own cc nL ret cells slots) {n : Int} {v : Int32} (hd : decode cc pc = .ok (.iconst n, 1)) (hv : Int32.ofInt n = v) (k : WW p l e R s m args below meth c D A nL cells slots Q ws loc (.int v :: st) (pc + 1)) : WW p l e R s m args below meth c D A nL cells slots Q ws loc (st) pc := fun H locs ls hP hD hS hl => lv_iconst cx.1 cx.2.1 hd hv (k H locs ls hP hD hS hl)
theorem r_bipush (cx : Cx p R s m args meth c D K A own cc nL ret cells slots) {n : Int} {v : Int32} (hd : decode cc pc = .ok (.bipush n, 2)) (hv : (Int8.ofInt n).toInt32 = v) (k : WW p l e R s m args below meth c D A nL cells slots Q ws loc (.int v :: st) (pc + 2)) : WW p l e R s m args below meth c D A nL cells slots Q ws loc (st) pc := fun H locs ls hP hD hS hl => lv_bipush cx.1 cx.2.1 hd hv (k H locs ls hP hD hS hl)
theorem r_sipush (cx : Cx p R s m args meth c D K A own cc nL ret cells slots) {n : Int} {v : Int32} (hd : decode cc pc = .ok (.sipush n, 3)) (hv : (Int16.ofInt n).toInt32 = v) (k : WW p l e R s m args below meth c D A nL cells slots Q ws loc (.int v :: st) (pc + 3)) : WW p l e R s m args below meth c D A nL cells slots Q ws loc (st) pc := fun H locs ls hP hD hS hl => lv_sipush cx.1 cx.2.1 hd hv (k H locs ls hP hD hS hl)
theorem r_lconst (cx : Cx p R s m args meth c D K A own cc nL ret cells slots) {n : Fin 2} {v : Int64} (hd : decode cc pc = .ok (.lconst n, 1)) (hv : Int64.ofNat (n : Nat) = v) (k : WW p l e R s m args below meth c D A nL cells slots Q ws loc (.long v :: st) (pc + 1)) : WW p l e R s m args below meth c D A nL cells slots Q ws loc (st) pc := fun H locs ls hP hD hS hl => lv_lconst cx.1 cx.2.1 hd hv (k H locs ls hP hD hS hl)
theorem r_ldc (cx : Cx p R s m args meth c D K A own cc nL ret cells slots) {v : Int32} {ix : Nat} (hd : decode cc pc = .ok (.ldc ix, 2)) (hw : Cond.constant own ix v ∈ WALL) (k : WW p l e R s m args below meth c D A nL cells slots Q ws loc (.int v :: st) (pc + 2)) : WW p l e R s m args below meth c D A nL cells slots Q ws loc (st) pc := fun H locs ls hP hD hS hl => lv_ldc cx.1 cx.2.1 cx.2.2.2.1 (cx.2.2.2.2.1 _ hw) hd (k H locs ls hP hD hS hl)
theorem r_ldcw (cx : Cx p R s m args meth c D K A own cc nL ret cells slots) {v : Int32} {ix : Nat} (hd : decode cc pc = .ok (.ldc_w ix, 3)) (hw : Cond.constant own ix v ∈ WALL) (k : WW p l e R s m args below meth c D A nL cells slots Q ws loc (.int v :: st) (pc + 3)) : WW p l e R s m args below meth c D A nL cells slots Q ws loc (st) pc := fun H locs ls hP hD hS hl => lv_ldcw cx.1 cx.2.1 cx.2.2.2.1 (cx.2.2.2.2.1 _ hw) hd (k H locs ls hP hD hS hl)
theorem r_ldc2 (cx : Cx p R s m args meth c D K A own cc nL ret cells slots) {v : Int64} {ix : Nat} (hd : decode cc pc = .ok (.ldc2_w ix, 3)) (hw : Cond.constantLong own ix v ∈ WALL) (k : WW p l e R s m args below meth c D A nL cells slots Q ws loc (.long v :: st) (pc + 3)) : WW p l e R s m args below meth c D A nL cells slots Q ws loc (st) pc := fun H locs ls hP hD hS hl => lv_ldc2 cx.1 cx.2.1 cx.2.2.2.1 (cx.2.2.2.2.1 _ hw) hd (k H locs ls hP hD hS hl)
theorem r_iload_n (cx : Cx p R s m args meth c D K A own cc nL ret cells slots) {kf : Fin 4} {x : Int32} (hd : decode cc pc = .ok (.iload_n kf, 1)) (j : Nat) (hj : loc[j]? = some ((kf : Nat), .int x)) (k : WW p l e R s m args below meth c D A nL cells slots Q ws loc (.int x :: st) (pc + 1)) : WW p l e R s m args below meth c D A nL cells slots Q ws loc (st) pc := fun H locs ls hP hD hS hl => lv_iload_n cx.1 cx.2.1 hd rfl (lv_at hl j hj) (k H locs ls hP hD hS hl)
theorem r_iload (cx : Cx p R s m args meth c D K A own cc nL ret cells slots) {i : Nat} {x : Int32} (hd : decode cc pc = .ok (.iload i, 2)) (j : Nat) (hj : loc[j]? = some (i, .int x)) (k : WW p l e R s m args below meth c D A nL cells slots Q ws loc (.int x :: st) (pc + 2)) : WW p l e R s m args below meth c D A nL cells slots Q ws loc (st) pc := fun H locs ls hP hD hS hl => lv_iload cx.1 cx.2.1 hd (lv_at hl j hj) (k H locs ls hP hD hS hl)
theorem r_istore_n (cx : Cx p R s m args meth c D K A own cc nL ret cells slots) {kf : Fin 4} {i : Nat} {x : Int32} (hd : decode cc pc = .ok (.istore_n kf, 1)) (hi : (kf : Nat) = i) (hn : i < nL) (hf : (i, Value.int x) :: loc.filter (fun q => !(q.1 == i) && !(q.1 + 1 == i && q.2.category == 2)) = loc') (k : WW p l e R s m args below meth c D A nL cells slots Q ws loc' (st) (pc + 1)) : WW p l e R s m args below meth c D A nL cells slots Q ws loc (.int x :: st) pc := fun H locs ls hP hD hS hl => lv_istore_n cx.1 cx.2.1 hd hi hl hn hf (fun ls hl => k H locs ls hP hD hS hl)
theorem r_istore (cx : Cx p R s m args meth c D K A own cc nL ret cells slots) {i : Nat} {x : Int32} (hd : decode cc pc = .ok (.istore i, 2)) (hn : i < nL) (hf : (i, Value.int x) :: loc.filter (fun q => !(q.1 == i) && !(q.1 + 1 == i && q.2.category == 2)) = loc') (k : WW p l e R s m args below meth c D A nL cells slots Q ws loc' (st) (pc + 2)) : WW p l e R s m args below meth c D A nL cells slots Q ws loc (.int x :: st) pc := fun H locs ls hP hD hS hl => lv_istore cx.1 cx.2.1 hd hl hn hf (fun ls hl => k H locs ls hP hD hS hl)
theorem r_lload_n (cx : Cx p R s m args meth c D K A own cc nL ret cells slots) {kf : Fin 4} {x : Int64} (hd : decode cc pc = .ok (.lload_n kf, 1)) (j : Nat) (hj : loc[j]? = some ((kf : Nat), .long x)) (k : WW p l e R s m args below meth c D A nL cells slots Q ws loc (.long x :: st) (pc + 1)) : WW p l e R s m args below meth c D A nL cells slots Q ws loc (st) pc := fun H locs ls hP hD hS hl => lv_lload_n cx.1 cx.2.1 hd rfl (lv_at hl j hj) (k H locs ls hP hD hS hl)
theorem r_lload (cx : Cx p R s m args meth c D K A own cc nL ret cells slots) {i : Nat} {x : Int64} (hd : decode cc pc = .ok (.lload i, 2)) (j : Nat) (hj : loc[j]? = some (i, .long x)) (k : WW p l e R s m args below meth c D A nL cells slots Q ws loc (.long x :: st) (pc + 2)) : WW p l e R s m args below meth c D A nL cells slots Q ws loc (st) pc := fun H locs ls hP hD hS hl => lv_lload cx.1 cx.2.1 hd (lv_at hl j hj) (k H locs ls hP hD hS hl)
theorem r_aload_n (cx : Cx p R s m args meth c D K A own cc nL ret cells slots) {kf : Fin 4} {x : Nat} (hd : decode cc pc = .ok (.aload_n kf, 1)) (j : Nat) (hj : loc[j]? = some ((kf : Nat), .ref x)) (k : WW p l e R s m args below meth c D A nL cells slots Q ws loc (.ref x :: st) (pc + 1)) : WW p l e R s m args below meth c D A nL cells slots Q ws loc (st) pc := fun H locs ls hP hD hS hl => lv_aload_n cx.1 cx.2.1 hd rfl (lv_at hl j hj) (k H locs ls hP hD hS hl)
theorem r_aload (cx : Cx p R s m args meth c D K A own cc nL ret cells slots) {i : Nat} {x : Nat} (hd : decode cc pc = .ok (.aload i, 2)) (j : Nat) (hj : loc[j]? = some (i, .ref x)) (k : WW p l e R s m args below meth c D A nL cells slots Q ws loc (.ref x :: st) (pc + 2)) : WW p l e R s m args below meth c D A nL cells slots Q ws loc (st) pc := fun H locs ls hP hD hS hl => lv_aload cx.1 cx.2.1 hd (lv_at hl j hj) (k H locs ls hP hD hS hl)
theorem r_astore_n (cx : Cx p R s m args meth c D K A own cc nL ret cells slots) {kf : Fin 4} {i : Nat} {x : Nat} (hd : decode cc pc = .ok (.astore_n kf, 1)) (hi : (kf : Nat) = i) (hn : i < nL) (hf : (i, Value.ref x) :: loc.filter (fun q => !(q.1 == i) && !(q.1 + 1 == i && q.2.category == 2)) = loc') (k : WW p l e R s m args below meth c D A nL cells slots Q ws loc' (st) (pc + 1)) : WW p l e R s m args below meth c D A nL cells slots Q ws loc (.ref x :: st) pc := fun H locs ls hP hD hS hl => lv_astore_n cx.1 cx.2.1 hd hi hl hn hf (fun ls hl => k H locs ls hP hD hS hl)
theorem r_astore (cx : Cx p R s m args meth c D K A own cc nL ret cells slots) {i : Nat} {x : Nat} (hd : decode cc pc = .ok (.astore i, 2)) (hn : i < nL) (hf : (i, Value.ref x) :: loc.filter (fun q => !(q.1 == i) && !(q.1 + 1 == i && q.2.category == 2)) = loc') (k : WW p l e R s m args below meth c D A nL cells slots Q ws loc' (st) (pc + 2)) : WW p l e R s m args below meth c D A nL cells slots Q ws loc (.ref x :: st) pc := fun H locs ls hP hD hS hl => lv_astore cx.1 cx.2.1 hd hl hn hf (fun ls hl => k H locs ls hP hD hS hl)
theorem r_fload_n (cx : Cx p R s m args meth c D K A own cc nL ret cells slots) {kf : Fin 4} {x : UInt32} (hd : decode cc pc = .ok (.fload_n kf, 1)) (j : Nat) (hj : loc[j]? = some ((kf : Nat), .float x)) (k : WW p l e R s m args below meth c D A nL cells slots Q ws loc (.float x :: st) (pc + 1)) : WW p l e R s m args below meth c D A nL cells slots Q ws loc (st) pc := fun H locs ls hP hD hS hl => lv_fload_n cx.1 cx.2.1 hd rfl (lv_at hl j hj) (k H locs ls hP hD hS hl)
theorem r_fload (cx : Cx p R s m args meth c D K A own cc nL ret cells slots) {i : Nat} {x : UInt32} (hd : decode cc pc = .ok (.fload i, 2)) (j : Nat) (hj : loc[j]? = some (i, .float x)) (k : WW p l e R s m args below meth c D A nL cells slots Q ws loc (.float x :: st) (pc + 2)) : WW p l e R s m args below meth c D A nL cells slots Q ws loc (st) pc := fun H locs ls hP hD hS hl => lv_fload cx.1 cx.2.1 hd (lv_at hl j hj) (k H locs ls hP hD hS hl)
theorem r_dload_n (cx : Cx p R s m args meth c D K A own cc nL ret cells slots) {kf : Fin 4} {x : UInt64} (hd : decode cc pc = .ok (.dload_n kf, 1)) (j : Nat) (hj : loc[j]? = some ((kf : Nat), .double x)) (k : WW p l e R s m args below meth c D A nL cells slots Q ws loc (.double x :: st) (pc + 1)) : WW p l e R s m args below meth c D A nL cells slots Q ws loc (st) pc := fun H locs ls hP hD hS hl => lv_dload_n cx.1 cx.2.1 hd rfl (lv_at hl j hj) (k H locs ls hP hD hS hl)
theorem r_dload (cx : Cx p R s m args meth c D K A own cc nL ret cells slots) {i : Nat} {x : UInt64} (hd : decode cc pc = .ok (.dload i, 2)) (j : Nat) (hj : loc[j]? = some (i, .double x)) (k : WW p l e R s m args below meth c D A nL cells slots Q ws loc (.double x :: st) (pc + 2)) : WW p l e R s m args below meth c D A nL cells slots Q ws loc (st) pc := fun H locs ls hP hD hS hl => lv_dload cx.1 cx.2.1 hd (lv_at hl j hj) (k H locs ls hP hD hS hl)
-- two-slot stores and the rest follow the kit
theorem r_iinc (cx : Cx p R s m args meth c D K A own cc nL ret cells slots) {i : Nat} {n : Int} {x v : Int32} (hd : decode cc pc = .ok (.iinc i n, 3)) (j : Nat) (hj : loc[j]? = some (i, .int x)) (hv : x + Int32.ofInt n = v) (hn : i < nL) (hf : (i, Value.int v) :: loc.filter (fun q => !(q.1 == i) && !(q.1 + 1 == i && q.2.category == 2)) = loc') (k : WW p l e R s m args below meth c D A nL cells slots Q ws loc' (st) (pc + 3)) : WW p l e R s m args below meth c D A nL cells slots Q ws loc (st) pc := fun H locs ls hP hD hS hl => lv_iinc cx.1 cx.2.1 hd hl (k := j) hj hv hn hf (fun ls hl => k H locs ls hP hD hS hl)
theorem r_iadd (cx : Cx p R s m args meth c D K A own cc nL ret cells slots) {x y : Int32} (hd : decode cc pc = .ok (.iadd, 1))  (k : WW p l e R s m args below meth c D A nL cells slots Q ws loc (.int (x + y) :: st) (pc + 1)) : WW p l e R s m args below meth c D A nL cells slots Q ws loc (.int y :: .int x :: st) pc := fun H locs ls hP hD hS hl => lv_iadd cx.1 cx.2.1 hd  (k H locs ls hP hD hS hl)
theorem r_isub (cx : Cx p R s m args meth c D K A own cc nL ret cells slots) {x y : Int32} (hd : decode cc pc = .ok (.isub, 1))  (k : WW p l e R s m args below meth c D A nL cells slots Q ws loc (.int (x - y) :: st) (pc + 1)) : WW p l e R s m args below meth c D A nL cells slots Q ws loc (.int y :: .int x :: st) pc := fun H locs ls hP hD hS hl => lv_isub cx.1 cx.2.1 hd  (k H locs ls hP hD hS hl)
theorem r_imul (cx : Cx p R s m args meth c D K A own cc nL ret cells slots) {x y : Int32} (hd : decode cc pc = .ok (.imul, 1))  (k : WW p l e R s m args below meth c D A nL cells slots Q ws loc (.int (x * y) :: st) (pc + 1)) : WW p l e R s m args below meth c D A nL cells slots Q ws loc (.int y :: .int x :: st) pc := fun H locs ls hP hD hS hl => lv_imul cx.1 cx.2.1 hd  (k H locs ls hP hD hS hl)
theorem r_iand (cx : Cx p R s m args meth c D K A own cc nL ret cells slots) {x y : Int32} (hd : decode cc pc = .ok (.iand, 1))  (k : WW p l e R s m args below meth c D A nL cells slots Q ws loc (.int (x &&& y) :: st) (pc + 1)) : WW p l e R s m args below meth c D A nL cells slots Q ws loc (.int y :: .int x :: st) pc := fun H locs ls hP hD hS hl => lv_iand cx.1 cx.2.1 hd  (k H locs ls hP hD hS hl)
theorem r_ior (cx : Cx p R s m args meth c D K A own cc nL ret cells slots) {x y : Int32} (hd : decode cc pc = .ok (.ior, 1))  (k : WW p l e R s m args below meth c D A nL cells slots Q ws loc (.int (x ||| y) :: st) (pc + 1)) : WW p l e R s m args below meth c D A nL cells slots Q ws loc (.int y :: .int x :: st) pc := fun H locs ls hP hD hS hl => lv_ior cx.1 cx.2.1 hd  (k H locs ls hP hD hS hl)
theorem r_ixor (cx : Cx p R s m args meth c D K A own cc nL ret cells slots) {x y : Int32} (hd : decode cc pc = .ok (.ixor, 1))  (k : WW p l e R s m args below meth c D A nL cells slots Q ws loc (.int (x ^^^ y) :: st) (pc + 1)) : WW p l e R s m args below meth c D A nL cells slots Q ws loc (.int y :: .int x :: st) pc := fun H locs ls hP hD hS hl => lv_ixor cx.1 cx.2.1 hd  (k H locs ls hP hD hS hl)
theorem r_ishl (cx : Cx p R s m args meth c D K A own cc nL ret cells slots) {x y : Int32} (hd : decode cc pc = .ok (.ishl, 1))  (k : WW p l e R s m args below meth c D A nL cells slots Q ws loc (.int (x <<< (y &&& 31)) :: st) (pc + 1)) : WW p l e R s m args below meth c D A nL cells slots Q ws loc (.int y :: .int x :: st) pc := fun H locs ls hP hD hS hl => lv_ishl cx.1 cx.2.1 hd  (k H locs ls hP hD hS hl)
theorem r_ishr (cx : Cx p R s m args meth c D K A own cc nL ret cells slots) {x y : Int32} (hd : decode cc pc = .ok (.ishr, 1))  (k : WW p l e R s m args below meth c D A nL cells slots Q ws loc (.int (x >>> (y &&& 31)) :: st) (pc + 1)) : WW p l e R s m args below meth c D A nL cells slots Q ws loc (.int y :: .int x :: st) pc := fun H locs ls hP hD hS hl => lv_ishr cx.1 cx.2.1 hd  (k H locs ls hP hD hS hl)
theorem r_iushr (cx : Cx p R s m args meth c D K A own cc nL ret cells slots) {x y : Int32} (hd : decode cc pc = .ok (.iushr, 1))  (k : WW p l e R s m args below meth c D A nL cells slots Q ws loc (.int ((x.toUInt32 >>> (y.toUInt32 &&& Int32.toUInt32 31)).toInt32) :: st) (pc + 1)) : WW p l e R s m args below meth c D A nL cells slots Q ws loc (.int y :: .int x :: st) pc := fun H locs ls hP hD hS hl => lv_iushr cx.1 cx.2.1 hd rfl (k H locs ls hP hD hS hl)
theorem r_idiv (cx : Cx p R s m args meth c D K A own cc nL ret cells slots) {x y : Int32} (hd : decode cc pc = .ok (.idiv, 1)) (hne : ¬ y = 0) (k : WW p l e R s m args below meth c D A nL cells slots Q ws loc (.int (x / y) :: st) (pc + 1)) : WW p l e R s m args below meth c D A nL cells slots Q ws loc (.int y :: .int x :: st) pc := fun H locs ls hP hD hS hl => lv_idiv cx.1 cx.2.1 hd hne (k H locs ls hP hD hS hl)
theorem r_irem (cx : Cx p R s m args meth c D K A own cc nL ret cells slots) {x y : Int32} (hd : decode cc pc = .ok (.irem, 1)) (hne : ¬ y = 0) (k : WW p l e R s m args below meth c D A nL cells slots Q ws loc (.int (x - x / y * y) :: st) (pc + 1)) : WW p l e R s m args below meth c D A nL cells slots Q ws loc (.int y :: .int x :: st) pc := fun H locs ls hP hD hS hl => lv_irem cx.1 cx.2.1 hd hne (k H locs ls hP hD hS hl)
theorem r_ineg (cx : Cx p R s m args meth c D K A own cc nL ret cells slots) {x : Int32} (hd : decode cc pc = .ok (.ineg, 1))  (k : WW p l e R s m args below meth c D A nL cells slots Q ws loc (.int (-x) :: st) (pc + 1)) : WW p l e R s m args below meth c D A nL cells slots Q ws loc (.int x :: st) pc := fun H locs ls hP hD hS hl => lv_ineg cx.1 cx.2.1 hd  (k H locs ls hP hD hS hl)
theorem r_ladd (cx : Cx p R s m args meth c D K A own cc nL ret cells slots) {x y : Int64} (hd : decode cc pc = .ok (.ladd, 1))  (k : WW p l e R s m args below meth c D A nL cells slots Q ws loc (.long (x + y) :: st) (pc + 1)) : WW p l e R s m args below meth c D A nL cells slots Q ws loc (.long y :: .long x :: st) pc := fun H locs ls hP hD hS hl => lv_ladd cx.1 cx.2.1 hd  (k H locs ls hP hD hS hl)
theorem r_lsub (cx : Cx p R s m args meth c D K A own cc nL ret cells slots) {x y : Int64} (hd : decode cc pc = .ok (.lsub, 1))  (k : WW p l e R s m args below meth c D A nL cells slots Q ws loc (.long (x - y) :: st) (pc + 1)) : WW p l e R s m args below meth c D A nL cells slots Q ws loc (.long y :: .long x :: st) pc := fun H locs ls hP hD hS hl => lv_lsub cx.1 cx.2.1 hd  (k H locs ls hP hD hS hl)
theorem r_lmul (cx : Cx p R s m args meth c D K A own cc nL ret cells slots) {x y : Int64} (hd : decode cc pc = .ok (.lmul, 1))  (k : WW p l e R s m args below meth c D A nL cells slots Q ws loc (.long (x * y) :: st) (pc + 1)) : WW p l e R s m args below meth c D A nL cells slots Q ws loc (.long y :: .long x :: st) pc := fun H locs ls hP hD hS hl => lv_lmul cx.1 cx.2.1 hd  (k H locs ls hP hD hS hl)
theorem r_land (cx : Cx p R s m args meth c D K A own cc nL ret cells slots) {x y : Int64} (hd : decode cc pc = .ok (.land, 1))  (k : WW p l e R s m args below meth c D A nL cells slots Q ws loc (.long (x &&& y) :: st) (pc + 1)) : WW p l e R s m args below meth c D A nL cells slots Q ws loc (.long y :: .long x :: st) pc := fun H locs ls hP hD hS hl => lv_land cx.1 cx.2.1 hd  (k H locs ls hP hD hS hl)
theorem r_lor (cx : Cx p R s m args meth c D K A own cc nL ret cells slots) {x y : Int64} (hd : decode cc pc = .ok (.lor, 1))  (k : WW p l e R s m args below meth c D A nL cells slots Q ws loc (.long (x ||| y) :: st) (pc + 1)) : WW p l e R s m args below meth c D A nL cells slots Q ws loc (.long y :: .long x :: st) pc := fun H locs ls hP hD hS hl => lv_lor cx.1 cx.2.1 hd  (k H locs ls hP hD hS hl)
theorem r_lxor (cx : Cx p R s m args meth c D K A own cc nL ret cells slots) {x y : Int64} (hd : decode cc pc = .ok (.lxor, 1))  (k : WW p l e R s m args below meth c D A nL cells slots Q ws loc (.long (x ^^^ y) :: st) (pc + 1)) : WW p l e R s m args below meth c D A nL cells slots Q ws loc (.long y :: .long x :: st) pc := fun H locs ls hP hD hS hl => lv_lxor cx.1 cx.2.1 hd  (k H locs ls hP hD hS hl)
theorem r_ldiv (cx : Cx p R s m args meth c D K A own cc nL ret cells slots) {x y : Int64} (hd : decode cc pc = .ok (.ldiv, 1)) (hne : ¬ y = 0) (k : WW p l e R s m args below meth c D A nL cells slots Q ws loc (.long (x / y) :: st) (pc + 1)) : WW p l e R s m args below meth c D A nL cells slots Q ws loc (.long y :: .long x :: st) pc := fun H locs ls hP hD hS hl => lv_ldiv cx.1 cx.2.1 hd hne (k H locs ls hP hD hS hl)
theorem r_lrem (cx : Cx p R s m args meth c D K A own cc nL ret cells slots) {x y : Int64} (hd : decode cc pc = .ok (.lrem, 1)) (hne : ¬ y = 0) (k : WW p l e R s m args below meth c D A nL cells slots Q ws loc (.long (x - x / y * y) :: st) (pc + 1)) : WW p l e R s m args below meth c D A nL cells slots Q ws loc (.long y :: .long x :: st) pc := fun H locs ls hP hD hS hl => lv_lrem cx.1 cx.2.1 hd hne (k H locs ls hP hD hS hl)
theorem r_lneg (cx : Cx p R s m args meth c D K A own cc nL ret cells slots) {x : Int64} (hd : decode cc pc = .ok (.lneg, 1))  (k : WW p l e R s m args below meth c D A nL cells slots Q ws loc (.long (-x) :: st) (pc + 1)) : WW p l e R s m args below meth c D A nL cells slots Q ws loc (.long x :: st) pc := fun H locs ls hP hD hS hl => lv_lneg cx.1 cx.2.1 hd  (k H locs ls hP hD hS hl)
theorem r_i2l (cx : Cx p R s m args meth c D K A own cc nL ret cells slots) {x : Int32} (hd : decode cc pc = .ok (.i2l, 1))  (k : WW p l e R s m args below meth c D A nL cells slots Q ws loc (.long x.toInt64 :: st) (pc + 1)) : WW p l e R s m args below meth c D A nL cells slots Q ws loc (.int x :: st) pc := fun H locs ls hP hD hS hl => lv_i2l cx.1 cx.2.1 hd rfl (k H locs ls hP hD hS hl)
theorem r_l2i (cx : Cx p R s m args meth c D K A own cc nL ret cells slots) {x : Int64} (hd : decode cc pc = .ok (.l2i, 1))  (k : WW p l e R s m args below meth c D A nL cells slots Q ws loc (.int x.toInt32 :: st) (pc + 1)) : WW p l e R s m args below meth c D A nL cells slots Q ws loc (.long x :: st) pc := fun H locs ls hP hD hS hl => lv_l2i cx.1 cx.2.1 hd rfl (k H locs ls hP hD hS hl)
theorem r_i2b (cx : Cx p R s m args meth c D K A own cc nL ret cells slots) {x : Int32} (hd : decode cc pc = .ok (.i2b, 1))  (k : WW p l e R s m args below meth c D A nL cells slots Q ws loc (.int x.toInt8.toInt32 :: st) (pc + 1)) : WW p l e R s m args below meth c D A nL cells slots Q ws loc (.int x :: st) pc := fun H locs ls hP hD hS hl => lv_i2b cx.1 cx.2.1 hd rfl (k H locs ls hP hD hS hl)
theorem r_i2c (cx : Cx p R s m args meth c D K A own cc nL ret cells slots) {x : Int32} (hd : decode cc pc = .ok (.i2c, 1))  (k : WW p l e R s m args below meth c D A nL cells slots Q ws loc (.int (x.toUInt32 % 65536).toInt32 :: st) (pc + 1)) : WW p l e R s m args below meth c D A nL cells slots Q ws loc (.int x :: st) pc := fun H locs ls hP hD hS hl => lv_i2c cx.1 cx.2.1 hd rfl (k H locs ls hP hD hS hl)
theorem r_lshl (cx : Cx p R s m args meth c D K A own cc nL ret cells slots) {x : Int64} {y : Int32} (hd : decode cc pc = .ok (.lshl, 1))  (k : WW p l e R s m args below meth c D A nL cells slots Q ws loc (.long (x <<< (y.toInt64 &&& 63)) :: st) (pc + 1)) : WW p l e R s m args below meth c D A nL cells slots Q ws loc (.int y :: .long x :: st) pc := fun H locs ls hP hD hS hl => lv_lshl cx.1 cx.2.1 hd rfl (k H locs ls hP hD hS hl)
theorem r_lshr (cx : Cx p R s m args meth c D K A own cc nL ret cells slots) {x : Int64} {y : Int32} (hd : decode cc pc = .ok (.lshr, 1))  (k : WW p l e R s m args below meth c D A nL cells slots Q ws loc (.long (x >>> (y.toInt64 &&& 63)) :: st) (pc + 1)) : WW p l e R s m args below meth c D A nL cells slots Q ws loc (.int y :: .long x :: st) pc := fun H locs ls hP hD hS hl => lv_lshr cx.1 cx.2.1 hd rfl (k H locs ls hP hD hS hl)
theorem r_lushr (cx : Cx p R s m args meth c D K A own cc nL ret cells slots) {x : Int64} {y : Int32} (hd : decode cc pc = .ok (.lushr, 1))  (k : WW p l e R s m args below meth c D A nL cells slots Q ws loc (.long ((x.toUInt64 >>> (y.toInt64.toUInt64 &&& Int64.toUInt64 63)).toInt64) :: st) (pc + 1)) : WW p l e R s m args below meth c D A nL cells slots Q ws loc (.int y :: .long x :: st) pc := fun H locs ls hP hD hS hl => lv_lushr cx.1 cx.2.1 hd rfl (k H locs ls hP hD hS hl)
theorem r_lcmp (cx : Cx p R s m args meth c D K A own cc nL ret cells slots) {x y : Int64} (hd : decode cc pc = .ok (.lcmp, 1))  (k : WW p l e R s m args below meth c D A nL cells slots Q ws loc (.int (lg_cmp x y) :: st) (pc + 1)) : WW p l e R s m args below meth c D A nL cells slots Q ws loc (.long y :: .long x :: st) pc := fun H locs ls hP hD hS hl => W.lcmp cx.1 cx.2.1 hd  (k H locs ls hP hD hS hl)
theorem r_i2f (cx : Cx p R s m args meth c D K A own cc nL ret cells slots) {x : Int32} (hd : decode cc pc = .ok (.i2f, 1))  (k : WW p l e R s m args below meth c D A nL cells slots Q ws loc (.float (FP.i2f x) :: st) (pc + 1)) : WW p l e R s m args below meth c D A nL cells slots Q ws loc (.int x :: st) pc := fun H locs ls hP hD hS hl => lv_i2f cx.1 cx.2.1 hd  (k H locs ls hP hD hS hl)
theorem r_i2d (cx : Cx p R s m args meth c D K A own cc nL ret cells slots) {x : Int32} (hd : decode cc pc = .ok (.i2d, 1))  (k : WW p l e R s m args below meth c D A nL cells slots Q ws loc (.double (FP.i2d x) :: st) (pc + 1)) : WW p l e R s m args below meth c D A nL cells slots Q ws loc (.int x :: st) pc := fun H locs ls hP hD hS hl => lv_i2d cx.1 cx.2.1 hd  (k H locs ls hP hD hS hl)
theorem r_d2i (cx : Cx p R s m args meth c D K A own cc nL ret cells slots) {x : UInt64} (hd : decode cc pc = .ok (.d2i, 1))  (k : WW p l e R s m args below meth c D A nL cells slots Q ws loc (.int (FP.d2i x) :: st) (pc + 1)) : WW p l e R s m args below meth c D A nL cells slots Q ws loc (.double x :: st) pc := fun H locs ls hP hD hS hl => lv_d2i cx.1 cx.2.1 hd  (k H locs ls hP hD hS hl)
theorem r_f2d (cx : Cx p R s m args meth c D K A own cc nL ret cells slots) {x : UInt32} (hd : decode cc pc = .ok (.f2d, 1)) (hn : n64 (FP.f2d x)) (k : WW p l e R s m args below meth c D A nL cells slots Q ws loc (.double (FP.f2d x) :: st) (pc + 1)) : WW p l e R s m args below meth c D A nL cells slots Q ws loc (.float x :: st) pc := fun H locs ls hP hD hS hl => lv_f2d cx.1 cx.2.1 hd hn (k H locs ls hP hD hS hl)
theorem r_d2f (cx : Cx p R s m args meth c D K A own cc nL ret cells slots) {x : UInt64} (hd : decode cc pc = .ok (.d2f, 1)) (hn : n32 (FP.d2f x)) (k : WW p l e R s m args below meth c D A nL cells slots Q ws loc (.float (FP.d2f x) :: st) (pc + 1)) : WW p l e R s m args below meth c D A nL cells slots Q ws loc (.double x :: st) pc := fun H locs ls hP hD hS hl => lv_d2f cx.1 cx.2.1 hd hn (k H locs ls hP hD hS hl)
theorem r_dadd (cx : Cx p R s m args meth c D K A own cc nL ret cells slots) {x y : UInt64} (hd : decode cc pc = .ok (.dadd, 1)) (hn : n64 (FP.dadd x y)) (k : WW p l e R s m args below meth c D A nL cells slots Q ws loc (.double (FP.dadd x y) :: st) (pc + 1)) : WW p l e R s m args below meth c D A nL cells slots Q ws loc (.double y :: .double x :: st) pc := fun H locs ls hP hD hS hl => lv_dadd cx.1 cx.2.1 hd hn (k H locs ls hP hD hS hl)
theorem r_dmul (cx : Cx p R s m args meth c D K A own cc nL ret cells slots) {x y : UInt64} (hd : decode cc pc = .ok (.dmul, 1)) (hn : n64 (FP.dmul x y)) (k : WW p l e R s m args below meth c D A nL cells slots Q ws loc (.double (FP.dmul x y) :: st) (pc + 1)) : WW p l e R s m args below meth c D A nL cells slots Q ws loc (.double y :: .double x :: st) pc := fun H locs ls hP hD hS hl => lv_dmul cx.1 cx.2.1 hd hn (k H locs ls hP hD hS hl)
theorem r_ddiv (cx : Cx p R s m args meth c D K A own cc nL ret cells slots) {x y : UInt64} (hd : decode cc pc = .ok (.ddiv, 1)) (hn : n64 (FP.ddiv x y)) (k : WW p l e R s m args below meth c D A nL cells slots Q ws loc (.double (FP.ddiv x y) :: st) (pc + 1)) : WW p l e R s m args below meth c D A nL cells slots Q ws loc (.double y :: .double x :: st) pc := fun H locs ls hP hD hS hl => lv_ddiv cx.1 cx.2.1 hd hn (k H locs ls hP hD hS hl)
theorem r_dcmpg (cx : Cx p R s m args meth c D K A own cc nL ret cells slots) {x y : UInt64} (hd : decode cc pc = .ok (.dcmp .g, 1))  (k : WW p l e R s m args below meth c D A nL cells slots Q ws loc (.int (Op.cmpValue (FP.dcmp x y) .g) :: st) (pc + 1)) : WW p l e R s m args below meth c D A nL cells slots Q ws loc (.double y :: .double x :: st) pc := fun H locs ls hP hD hS hl => lv_dcmp cx.1 cx.2.1 hd  (k H locs ls hP hD hS hl)
theorem r_fcmpl (cx : Cx p R s m args meth c D K A own cc nL ret cells slots) {x y : UInt32} (hd : decode cc pc = .ok (.fcmp .l, 1))  (k : WW p l e R s m args below meth c D A nL cells slots Q ws loc (.int (Op.cmpValue (FP.fcmp x y) .l) :: st) (pc + 1)) : WW p l e R s m args below meth c D A nL cells slots Q ws loc (.float y :: .float x :: st) pc := fun H locs ls hP hD hS hl => lv_fcmp cx.1 cx.2.1 hd  (k H locs ls hP hD hS hl)
theorem r_lstore_n (cx : Cx p R s m args meth c D K A own cc nL ret cells slots) {kf : Fin 4} {i : Nat} {x : Int64} (hd : decode cc pc = .ok (.lstore_n kf, 1)) (hi : (kf : Nat) = i) (hn : i + 1 < nL) (hf : (i, Value.long x) :: loc.filter (fun q => !(q.1 == i) && (!(q.1 == i + 1) && !(q.1 + 1 == i && q.2.category == 2))) = loc') (k : WW p l e R s m args below meth c D A nL cells slots Q ws loc' (st) (pc + 1)) : WW p l e R s m args below meth c D A nL cells slots Q ws loc (.long x :: st) pc := fun H locs ls hP hD hS hl => lv_lstore_n cx.1 cx.2.1 hd hi hl hn hf (fun ls hl => k H locs ls hP hD hS hl)
theorem r_lstore (cx : Cx p R s m args meth c D K A own cc nL ret cells slots) {i : Nat} {x : Int64} (hd : decode cc pc = .ok (.lstore i, 2)) (hn : i + 1 < nL) (hf : (i, Value.long x) :: loc.filter (fun q => !(q.1 == i) && (!(q.1 == i + 1) && !(q.1 + 1 == i && q.2.category == 2))) = loc') (k : WW p l e R s m args below meth c D A nL cells slots Q ws loc' (st) (pc + 2)) : WW p l e R s m args below meth c D A nL cells slots Q ws loc (.long x :: st) pc := fun H locs ls hP hD hS hl => lv_lstore cx.1 cx.2.1 hd hl hn hf (fun ls hl => k H locs ls hP hD hS hl)
theorem r_dstore_n (cx : Cx p R s m args meth c D K A own cc nL ret cells slots) {kf : Fin 4} {i : Nat} {x : UInt64} (hd : decode cc pc = .ok (.dstore_n kf, 1)) (hi : (kf : Nat) = i) (hn : i + 1 < nL) (hf : (i, Value.double x) :: loc.filter (fun q => !(q.1 == i) && (!(q.1 == i + 1) && !(q.1 + 1 == i && q.2.category == 2))) = loc') (k : WW p l e R s m args below meth c D A nL cells slots Q ws loc' (st) (pc + 1)) : WW p l e R s m args below meth c D A nL cells slots Q ws loc (.double x :: st) pc := fun H locs ls hP hD hS hl => lv_dstore_n cx.1 cx.2.1 hd hi hl hn hf (fun ls hl => k H locs ls hP hD hS hl)
theorem r_dstore (cx : Cx p R s m args meth c D K A own cc nL ret cells slots) {i : Nat} {x : UInt64} (hd : decode cc pc = .ok (.dstore i, 2)) (hn : i + 1 < nL) (hf : (i, Value.double x) :: loc.filter (fun q => !(q.1 == i) && (!(q.1 == i + 1) && !(q.1 + 1 == i && q.2.category == 2))) = loc') (k : WW p l e R s m args below meth c D A nL cells slots Q ws loc' (st) (pc + 2)) : WW p l e R s m args below meth c D A nL cells slots Q ws loc (.double x :: st) pc := fun H locs ls hP hD hS hl => lv_dstore cx.1 cx.2.1 hd hl hn hf (fun ls hl => k H locs ls hP hD hS hl)
theorem r_bits2f (cx : Cx p R s m args meth c D K A own cc nL ret cells slots) {b : Int32} {ix : Nat} (hv : vn_sni2f b = false) (hw : Cond.methodLink own ix ⟨"java/lang/Float", "intBitsToFloat", "(I)F"⟩ ∈ WALL) (hw2 : Cond.native ⟨"java/lang/Float", "intBitsToFloat", "(I)F"⟩ ∈ WALL) (hw3 : Cond.static ⟨"java/lang/Float", "intBitsToFloat", "(I)F"⟩ ∈ WALL) (hw4 : Cond.initialized "java/lang/Float" ∈ WALL) (hfr : 1 ≤ R.frames) (hlo : (st.map fun v => v.category).sum + 15 ≤ R.locals) (hd : decode cc pc = .ok (.invokestatic ix, 3)) (k : WW p l e R s m args below meth c D A nL cells slots Q ws loc (.float b.toUInt32 :: st) (pc + 3)) : WW p l e R s m args below meth c D A nL cells slots Q ws loc (.int b :: st) pc := fun H locs ls hP hD hS hl => vn_i2f cx.1 cx.2.1 (by rw [cx.2.2.1]; exact hl.1.symm) cx.2.2.2.1 (cx.2.2.2.2.1 _ hw) (cx.2.2.2.2.1 _ hw2) (cx.2.2.2.2.1 _ hw3) (cx.2.2.2.2.1 _ hw4) hv hfr hlo hd (k H locs ls hP hD hS hl)
theorem r_f2bits (cx : Cx p R s m args meth c D K A own cc nL ret cells slots) {b : UInt32} {ix : Nat}  (hw : Cond.methodLink own ix ⟨"java/lang/Float", "floatToRawIntBits", "(F)I"⟩ ∈ WALL) (hw2 : Cond.native ⟨"java/lang/Float", "floatToRawIntBits", "(F)I"⟩ ∈ WALL) (hw3 : Cond.static ⟨"java/lang/Float", "floatToRawIntBits", "(F)I"⟩ ∈ WALL) (hw4 : Cond.initialized "java/lang/Float" ∈ WALL) (hfr : 1 ≤ R.frames) (hlo : (st.map fun v => v.category).sum + 15 ≤ R.locals) (hd : decode cc pc = .ok (.invokestatic ix, 3)) (k : WW p l e R s m args below meth c D A nL cells slots Q ws loc (.int b.toInt32 :: st) (pc + 3)) : WW p l e R s m args below meth c D A nL cells slots Q ws loc (.float b :: st) pc := fun H locs ls hP hD hS hl => vn_f2i cx.1 cx.2.1 (by rw [cx.2.2.1]; exact hl.1.symm) cx.2.2.2.1 (cx.2.2.2.2.1 _ hw) (cx.2.2.2.2.1 _ hw2) (cx.2.2.2.2.1 _ hw3) (cx.2.2.2.2.1 _ hw4) hfr hlo hd (k H locs ls hP hD hS hl)
theorem r_copyI (cx : Cx p R s m args meth c D K A own cc nL ret cells slots) {a0 a n0 n1 ix : Nat} {f g : Nat → Int32} {n : Int32} {nn : Nat} {g' : Nat → Int32} (q0 q1 : Nat) (ha0 : ws[q0]? = some (a0, aI K n0 f)) (ha1 : ws[q1]? = some (a, aI K n1 g)) (hn : ¬ n < 0) (hnn : n.toNatClampNeg = nn) (h0 : nn ≤ n0) (h1 : nn ≤ n1) (hg : g' = va_cpy f g 0 0 nn) (hw : Cond.methodLink own ix arraycopyName ∈ WALL) (hw2 : Cond.native arraycopyName ∈ WALL) (hw3 : Cond.static arraycopyName ∈ WALL) (hw4 : Cond.initialized "java/lang/System" ∈ WALL) (hfr : 1 ≤ R.frames) (hlo : (st.map fun v => v.category).sum + (nativeFrameWords "java/lang/System" "arraycopy" 5 + 11) ≤ R.locals) (hd : decode cc pc = .ok (.invokestatic ix, 3)) (hws : ws.set q1 (a, aI K n1 g') = ws') (k : WW p l e R s m args below meth c D A nL cells slots Q ws' loc st (pc + 3)) : WW p l e R s m args below meth c D A nL cells slots Q ws loc (.int n :: .int 0 :: .ref a :: .int 0 :: .ref a0 :: st) pc := fun H locs ls hP hD hS hl => by
  subst hnn hg
  exact va_copyi (D := D) cx.1 cx.2.1 (by rw [cx.2.2.1]; exact hl.1.symm) cx.2.2.2.1 (cx.2.2.2.2.1 _ hw) (cx.2.2.2.2.1 _ hw2) (cx.2.2.2.2.1 _ hw3) (cx.2.2.2.2.1 _ hw4) cx.2.2.2.2.2.2.2.1 hP hD hS q0 q1 0 0 ha0 ha1 rfl rfl rfl (by decide) (by decide) hn (by show 0 + _ ≤ _; omega) (by show 0 + _ ≤ _; omega) (fun _ _ => rfl) hfr hlo hd (fun H1 locs1 hP hD hS => k H1 locs1 ls (hws ▸ hP) (hws ▸ hD) hS hl)
theorem r_dup (cx : Cx p R s m args meth c D K A own cc nL ret cells slots) {v : Value} (hd : decode cc pc = .ok (.dup, 1)) (hc : v.category = 1) (k : WW p l e R s m args below meth c D A nL cells slots Q ws loc (v :: v :: st) (pc + 1)) : WW p l e R s m args below meth c D A nL cells slots Q ws loc (v :: st) pc := fun H locs ls hP hD hS hl => lv_dup cx.1 cx.2.1 hd hc (k H locs ls hP hD hS hl)
theorem r_dup2 (cx : Cx p R s m args meth c D K A own cc nL ret cells slots) {v w : Value} (hd : decode cc pc = .ok (.dup2, 1)) (hc : v.category = 1) (hc2 : w.category = 1) (k : WW p l e R s m args below meth c D A nL cells slots Q ws loc (v :: w :: v :: w :: st) (pc + 1)) : WW p l e R s m args below meth c D A nL cells slots Q ws loc (v :: w :: st) pc := fun H locs ls hP hD hS hl => lv_dup2_11 cx.1 cx.2.1 hd hc hc2 (k H locs ls hP hD hS hl)
theorem r_pop (cx : Cx p R s m args meth c D K A own cc nL ret cells slots) {v : Value} (hd : decode cc pc = .ok (.pop, 1)) (hc : v.category = 1) (k : WW p l e R s m args below meth c D A nL cells slots Q ws loc (st) (pc + 1)) : WW p l e R s m args below meth c D A nL cells slots Q ws loc (v :: st) pc := fun H locs ls hP hD hS hl => lv_pop cx.1 cx.2.1 hd hc (k H locs ls hP hD hS hl)
theorem r_nm {x y : Int32} (h : x = y) (k : WW p l e R s m args below meth c D A nL cells slots Q ws loc (.int x :: st) pc) : WW p l e R s m args below meth c D A nL cells slots Q ws loc (.int y :: st) pc := h ▸ k
theorem r_nmL {x y : Int64} (h : x = y) (k : WW p l e R s m args below meth c D A nL cells slots Q ws loc (.long x :: st) pc) : WW p l e R s m args below meth c D A nL cells slots Q ws loc (.long y :: st) pc := h ▸ k
theorem r_nmD {x y : UInt64} (h : x = y) (k : WW p l e R s m args below meth c D A nL cells slots Q ws loc (.double x :: st) pc) : WW p l e R s m args below meth c D A nL cells slots Q ws loc (.double y :: st) pc := h ▸ k
theorem r_loc (ks : List Nat) (h : lv_pick loc ks = loc') (k : WW p l e R s m args below meth c D A nL cells slots Q ws loc' st pc) : WW p l e R s m args below meth c D A nL cells slots Q ws loc st pc := fun H locs ls hP hD hS hl => k H locs ls hP hD hS (lv_sub hl ks h)
theorem r_ws (h : ws = ws') (k : WW p l e R s m args below meth c D A nL cells slots Q ws' loc st pc) : WW p l e R s m args below meth c D A nL cells slots Q ws loc st pc := h ▸ k
theorem r_if_eq (cx : Cx p R s m args meth c D K A own cc nL ret cells slots) {x : Int32} {off : Int} {tgt : Nat} (hd : decode cc pc = .ok (.ifCond .eq off, 3)) (ht : (pc : Int) + off = (tgt : Int)) (kt : x = 0 → WW p l e R s m args below meth c D A nL cells slots Q ws loc st tgt) (kf : ¬ x = 0 → WW p l e R s m args below meth c D A nL cells slots Q ws loc st (pc + 3)) : WW p l e R s m args below meth c D A nL cells slots Q ws loc (.int x :: st) pc := fun H locs ls hP hD hS hl => lv_if_eq cx.1 cx.2.1 hd ht (fun h => kt h H locs ls hP hD hS hl) (fun h => kf h H locs ls hP hD hS hl)
theorem r_icmp_eq (cx : Cx p R s m args meth c D K A own cc nL ret cells slots) {x y : Int32} {off : Int} {tgt : Nat} (hd : decode cc pc = .ok (.if_icmp .eq off, 3)) (ht : (pc : Int) + off = (tgt : Int)) (kt : x = y → WW p l e R s m args below meth c D A nL cells slots Q ws loc st tgt) (kf : ¬ x = y → WW p l e R s m args below meth c D A nL cells slots Q ws loc st (pc + 3)) : WW p l e R s m args below meth c D A nL cells slots Q ws loc (.int y :: .int x :: st) pc := fun H locs ls hP hD hS hl => lv_icmp_eq cx.1 cx.2.1 hd ht (fun h => kt h H locs ls hP hD hS hl) (fun h => kf h H locs ls hP hD hS hl)
theorem r_if_ne (cx : Cx p R s m args meth c D K A own cc nL ret cells slots) {x : Int32} {off : Int} {tgt : Nat} (hd : decode cc pc = .ok (.ifCond .ne off, 3)) (ht : (pc : Int) + off = (tgt : Int)) (kt : ¬ x = 0 → WW p l e R s m args below meth c D A nL cells slots Q ws loc st tgt) (kf : x = 0 → WW p l e R s m args below meth c D A nL cells slots Q ws loc st (pc + 3)) : WW p l e R s m args below meth c D A nL cells slots Q ws loc (.int x :: st) pc := fun H locs ls hP hD hS hl => lv_if_ne cx.1 cx.2.1 hd ht (fun h => kt h H locs ls hP hD hS hl) (fun h => kf h H locs ls hP hD hS hl)
theorem r_icmp_ne (cx : Cx p R s m args meth c D K A own cc nL ret cells slots) {x y : Int32} {off : Int} {tgt : Nat} (hd : decode cc pc = .ok (.if_icmp .ne off, 3)) (ht : (pc : Int) + off = (tgt : Int)) (kt : ¬ x = y → WW p l e R s m args below meth c D A nL cells slots Q ws loc st tgt) (kf : x = y → WW p l e R s m args below meth c D A nL cells slots Q ws loc st (pc + 3)) : WW p l e R s m args below meth c D A nL cells slots Q ws loc (.int y :: .int x :: st) pc := fun H locs ls hP hD hS hl => lv_icmp_ne cx.1 cx.2.1 hd ht (fun h => kt h H locs ls hP hD hS hl) (fun h => kf h H locs ls hP hD hS hl)
theorem r_if_lt (cx : Cx p R s m args meth c D K A own cc nL ret cells slots) {x : Int32} {off : Int} {tgt : Nat} (hd : decode cc pc = .ok (.ifCond .lt off, 3)) (ht : (pc : Int) + off = (tgt : Int)) (kt : x < 0 → WW p l e R s m args below meth c D A nL cells slots Q ws loc st tgt) (kf : ¬ x < 0 → WW p l e R s m args below meth c D A nL cells slots Q ws loc st (pc + 3)) : WW p l e R s m args below meth c D A nL cells slots Q ws loc (.int x :: st) pc := fun H locs ls hP hD hS hl => lv_if_lt cx.1 cx.2.1 hd ht (fun h => kt h H locs ls hP hD hS hl) (fun h => kf h H locs ls hP hD hS hl)
theorem r_icmp_lt (cx : Cx p R s m args meth c D K A own cc nL ret cells slots) {x y : Int32} {off : Int} {tgt : Nat} (hd : decode cc pc = .ok (.if_icmp .lt off, 3)) (ht : (pc : Int) + off = (tgt : Int)) (kt : x < y → WW p l e R s m args below meth c D A nL cells slots Q ws loc st tgt) (kf : ¬ x < y → WW p l e R s m args below meth c D A nL cells slots Q ws loc st (pc + 3)) : WW p l e R s m args below meth c D A nL cells slots Q ws loc (.int y :: .int x :: st) pc := fun H locs ls hP hD hS hl => lv_icmp_lt cx.1 cx.2.1 hd ht (fun h => kt h H locs ls hP hD hS hl) (fun h => kf h H locs ls hP hD hS hl)
theorem r_if_ge (cx : Cx p R s m args meth c D K A own cc nL ret cells slots) {x : Int32} {off : Int} {tgt : Nat} (hd : decode cc pc = .ok (.ifCond .ge off, 3)) (ht : (pc : Int) + off = (tgt : Int)) (kt : 0 ≤ x → WW p l e R s m args below meth c D A nL cells slots Q ws loc st tgt) (kf : ¬ 0 ≤ x → WW p l e R s m args below meth c D A nL cells slots Q ws loc st (pc + 3)) : WW p l e R s m args below meth c D A nL cells slots Q ws loc (.int x :: st) pc := fun H locs ls hP hD hS hl => lv_if_ge cx.1 cx.2.1 hd ht (fun h => kt h H locs ls hP hD hS hl) (fun h => kf h H locs ls hP hD hS hl)
theorem r_icmp_ge (cx : Cx p R s m args meth c D K A own cc nL ret cells slots) {x y : Int32} {off : Int} {tgt : Nat} (hd : decode cc pc = .ok (.if_icmp .ge off, 3)) (ht : (pc : Int) + off = (tgt : Int)) (kt : y ≤ x → WW p l e R s m args below meth c D A nL cells slots Q ws loc st tgt) (kf : ¬ y ≤ x → WW p l e R s m args below meth c D A nL cells slots Q ws loc st (pc + 3)) : WW p l e R s m args below meth c D A nL cells slots Q ws loc (.int y :: .int x :: st) pc := fun H locs ls hP hD hS hl => lv_icmp_ge cx.1 cx.2.1 hd ht (fun h => kt h H locs ls hP hD hS hl) (fun h => kf h H locs ls hP hD hS hl)
theorem r_if_gt (cx : Cx p R s m args meth c D K A own cc nL ret cells slots) {x : Int32} {off : Int} {tgt : Nat} (hd : decode cc pc = .ok (.ifCond .gt off, 3)) (ht : (pc : Int) + off = (tgt : Int)) (kt : 0 < x → WW p l e R s m args below meth c D A nL cells slots Q ws loc st tgt) (kf : ¬ 0 < x → WW p l e R s m args below meth c D A nL cells slots Q ws loc st (pc + 3)) : WW p l e R s m args below meth c D A nL cells slots Q ws loc (.int x :: st) pc := fun H locs ls hP hD hS hl => lv_if_gt cx.1 cx.2.1 hd ht (fun h => kt h H locs ls hP hD hS hl) (fun h => kf h H locs ls hP hD hS hl)
theorem r_icmp_gt (cx : Cx p R s m args meth c D K A own cc nL ret cells slots) {x y : Int32} {off : Int} {tgt : Nat} (hd : decode cc pc = .ok (.if_icmp .gt off, 3)) (ht : (pc : Int) + off = (tgt : Int)) (kt : y < x → WW p l e R s m args below meth c D A nL cells slots Q ws loc st tgt) (kf : ¬ y < x → WW p l e R s m args below meth c D A nL cells slots Q ws loc st (pc + 3)) : WW p l e R s m args below meth c D A nL cells slots Q ws loc (.int y :: .int x :: st) pc := fun H locs ls hP hD hS hl => lv_icmp_gt cx.1 cx.2.1 hd ht (fun h => kt h H locs ls hP hD hS hl) (fun h => kf h H locs ls hP hD hS hl)
theorem r_if_le (cx : Cx p R s m args meth c D K A own cc nL ret cells slots) {x : Int32} {off : Int} {tgt : Nat} (hd : decode cc pc = .ok (.ifCond .le off, 3)) (ht : (pc : Int) + off = (tgt : Int)) (kt : x ≤ 0 → WW p l e R s m args below meth c D A nL cells slots Q ws loc st tgt) (kf : ¬ x ≤ 0 → WW p l e R s m args below meth c D A nL cells slots Q ws loc st (pc + 3)) : WW p l e R s m args below meth c D A nL cells slots Q ws loc (.int x :: st) pc := fun H locs ls hP hD hS hl => lv_if_le cx.1 cx.2.1 hd ht (fun h => kt h H locs ls hP hD hS hl) (fun h => kf h H locs ls hP hD hS hl)
theorem r_icmp_le (cx : Cx p R s m args meth c D K A own cc nL ret cells slots) {x y : Int32} {off : Int} {tgt : Nat} (hd : decode cc pc = .ok (.if_icmp .le off, 3)) (ht : (pc : Int) + off = (tgt : Int)) (kt : x ≤ y → WW p l e R s m args below meth c D A nL cells slots Q ws loc st tgt) (kf : ¬ x ≤ y → WW p l e R s m args below meth c D A nL cells slots Q ws loc st (pc + 3)) : WW p l e R s m args below meth c D A nL cells slots Q ws loc (.int y :: .int x :: st) pc := fun H locs ls hP hD hS hl => lv_icmp_le cx.1 cx.2.1 hd ht (fun h => kt h H locs ls hP hD hS hl) (fun h => kf h H locs ls hP hD hS hl)
theorem r_goto (cx : Cx p R s m args meth c D K A own cc nL ret cells slots) {off : Int} {tgt : Nat} (hd : decode cc pc = .ok (.goto off, 3)) (ht : (pc : Int) + off = (tgt : Int)) (k : WW p l e R s m args below meth c D A nL cells slots Q ws loc st tgt) : WW p l e R s m args below meth c D A nL cells slots Q ws loc st pc := fun H locs ls hP hD hS hl => lv_goto cx.1 cx.2.1 hd ht (k H locs ls hP hD hS hl)
theorem r_tin (cx : Cx p R s m args meth c D K A own cc nL ret cells slots) {dflt lo hi : Int} {offs : Array Int} {len : Nat} {x : Int32} (v : Int32) {off : Int} {tgt : Nat} (hx : x = v) (hd : decode cc pc = .ok (.tableswitch dflt lo hi offs, len)) (h1 : ¬ v.toInt < lo) (h2 : ¬ hi < v.toInt) (ho : offs[(v.toInt - lo).toNat]? = some off) (ht : (pc : Int) + off = (tgt : Int)) (k : WW p l e R s m args below meth c D A nL cells slots Q ws loc st tgt) : WW p l e R s m args below meth c D A nL cells slots Q ws loc (.int x :: st) pc := fun H locs ls hP hD hS hl => by subst hx; exact lv_tableIn cx.1 cx.2.1 hd h1 h2 ho ht (k H locs ls hP hD hS hl)
theorem r_tout (cx : Cx p R s m args meth c D K A own cc nL ret cells slots) {dflt lo hi : Int} {offs : Array Int} {len : Nat} {x : Int32} {tgt : Nat} (hd : decode cc pc = .ok (.tableswitch dflt lo hi offs, len)) (h : x.toInt < lo ∨ hi < x.toInt) (ht : (pc : Int) + dflt = (tgt : Int)) (k : WW p l e R s m args below meth c D A nL cells slots Q ws loc st tgt) : WW p l e R s m args below meth c D A nL cells slots Q ws loc (.int x :: st) pc := fun H locs ls hP hD hS hl => lv_tableOut cx.1 cx.2.1 hd h ht (k H locs ls hP hD hS hl)
theorem r_get (cx : Cx p R s m args meth c D K A own cc nL ret cells slots) {ci : Nat} {C : String} {T : u_T} {N : Nat} {ty0 : Nat → FieldType} (cf : CF ci C T N ty0) {fs : List Value} {a : Nat} (q0 k : Nat) {ix : Nat} {v : Value} (he : ws[q0]? = some (a, .inr (ci, fs))) (hk : k < N) (hv : fs[k]? = some v) (hw : Cond.fieldLink own ix (T k).1 (T k).2.1 (T k).2.2.1 ∈ WALL) (hd : decode cc pc = .ok (.getfield ix, 3)) (k' : WW p l e R s m args below meth c D A nL cells slots Q ws loc (v :: st) (pc + 3)) : WW p l e R s m args below meth c D A nL cells slots Q ws loc (.ref a :: st) pc := fun H locs ls hP hD hS hl => va_get (D := D) cx.1 cx.2.1 cx.2.2.2.2.1 cf.2.1 cx.2.2.2.1 cx.2.2.2.2.2.2.2.1 hP q0 he cf.1 k hk (cx.2.2.2.2.1 _ hw) (fun _ h => h) hv hd (k' H locs ls hP hD hS hl)
theorem r_putI (cx : Cx p R s m args meth c D K A own cc nL ret cells slots) {ci : Nat} {C : String} {T : u_T} {N : Nat} {ty0 : Nat → FieldType} (cf : CF ci C T N ty0) {fs : List Value} {a : Nat} (q0 k : Nat) {ix : Nat} {x : Int32} (he : ws[q0]? = some (a, .inr (ci, fs))) (hk : k < N) (hl' : k < fs.length)  (hfin : (T k).2.2.2 = false) (hty : parseFieldDescriptor (T k).2.2.1 = some (.int)) (hw : Cond.fieldLink own ix (T k).1 (T k).2.1 (T k).2.2.1 ∈ WALL) (hd : decode cc pc = .ok (.putfield ix, 3)) (hws : ws.set q0 (a, .inr (ci, fs.set k (.int x))) = ws') (k' : WW p l e R s m args below meth c D A nL cells slots Q ws' loc st (pc + 3)) : WW p l e R s m args below meth c D A nL cells slots Q ws loc (.int x :: .ref a :: st) pc := fun H locs ls hP hD hS hl => va_put (D := D) cx.1 cx.2.1 cx.2.2.2.2.1 cf.2.1 ty0 cf.2.2.1 cf.2.2.2 cx.2.2.2.1 cx.2.2.2.2.2.2.2.1 hP hD hS q0 he cf.1 k hk (cx.2.2.2.2.1 _ hw) (fun _ h => h) hfin hty rfl rfl hl' hd (fun H1 locs1 hP hD hS => k' H1 locs1 ls (hws ▸ hP) (hws ▸ hD) hS hl)
theorem r_putZ (cx : Cx p R s m args meth c D K A own cc nL ret cells slots) {ci : Nat} {C : String} {T : u_T} {N : Nat} {ty0 : Nat → FieldType} (cf : CF ci C T N ty0) {fs : List Value} {a : Nat} (q0 k : Nat) {ix : Nat} {x : Int32} (he : ws[q0]? = some (a, .inr (ci, fs))) (hk : k < N) (hl' : k < fs.length) (hz : isB x) (hfin : (T k).2.2.2 = false) (hty : parseFieldDescriptor (T k).2.2.1 = some (.boolean)) (hw : Cond.fieldLink own ix (T k).1 (T k).2.1 (T k).2.2.1 ∈ WALL) (hd : decode cc pc = .ok (.putfield ix, 3)) (hws : ws.set q0 (a, .inr (ci, fs.set k (.int x))) = ws') (k' : WW p l e R s m args below meth c D A nL cells slots Q ws' loc st (pc + 3)) : WW p l e R s m args below meth c D A nL cells slots Q ws loc (.int x :: .ref a :: st) pc := fun H locs ls hP hD hS hl => va_put (D := D) cx.1 cx.2.1 cx.2.2.2.2.1 cf.2.1 ty0 cf.2.2.1 cf.2.2.2 cx.2.2.2.1 cx.2.2.2.2.2.2.2.1 hP hD hS q0 he cf.1 k hk (cx.2.2.2.2.1 _ hw) (fun _ h => h) hfin hty (nar_z hz) (fit_z hz) hl' hd (fun H1 locs1 hP hD hS => k' H1 locs1 ls (hws ▸ hP) (hws ▸ hD) hS hl)
theorem r_putR (cx : Cx p R s m args meth c D K A own cc nL ret cells slots) {ci : Nat} {C : String} {T : u_T} {N : Nat} {ty0 : Nat → FieldType} (cf : CF ci C T N ty0) {fs : List Value} {a : Nat} (q0 k : Nat) {ix : Nat} {n : String} {x : Nat} (he : ws[q0]? = some (a, .inr (ci, fs))) (hk : k < N) (hl' : k < fs.length)  (hfin : (T k).2.2.2 = false) (hty : parseFieldDescriptor (T k).2.2.1 = some (.object n)) (hw : Cond.fieldLink own ix (T k).1 (T k).2.1 (T k).2.2.1 ∈ WALL) (hd : decode cc pc = .ok (.putfield ix, 3)) (hws : ws.set q0 (a, .inr (ci, fs.set k (.ref x))) = ws') (k' : WW p l e R s m args below meth c D A nL cells slots Q ws' loc st (pc + 3)) : WW p l e R s m args below meth c D A nL cells slots Q ws loc (.ref x :: .ref a :: st) pc := fun H locs ls hP hD hS hl => va_put (D := D) cx.1 cx.2.1 cx.2.2.2.2.1 cf.2.1 ty0 cf.2.2.1 cf.2.2.2 cx.2.2.2.1 cx.2.2.2.2.2.2.2.1 hP hD hS q0 he cf.1 k hk (cx.2.2.2.2.1 _ hw) (fun _ h => h) hfin hty rfl rfl hl' hd (fun H1 locs1 hP hD hS => k' H1 locs1 ls (hws ▸ hP) (hws ▸ hD) hS hl)
theorem r_iald (cx : Cx p R s m args meth c D K A own cc nL ret cells slots) {a n : Nat} {f : Nat → Int32} {i : Int32} (q0 : Nat) (ha : ws[q0]? = some (a, aI K n f)) (hin : ix i n) (hd : decode cc pc = .ok (.iaload, 1)) (k : WW p l e R s m args below meth c D A nL cells slots Q ws loc (.int (f i.toNatClampNeg) :: st) (pc + 1)) : WW p l e R s m args below meth c D A nL cells slots Q ws loc (.int i :: .ref a :: st) pc := fun H locs ls hP hD hS hl => va_iald (D := D) cx.1 cx.2.1 cx.2.2.2.2.2.2.2.1 hP q0 0 ha rfl hin hd (k H locs ls hP hD hS hl)
theorem r_bald (cx : Cx p R s m args meth c D K A own cc nL ret cells slots) {a n : Nat} {f : Nat → Int32} {i : Int32} (q0 : Nat) (ha : ws[q0]? = some (a, aB K n f)) (hin : ix i n) (hd : decode cc pc = .ok (.baload, 1)) (k : WW p l e R s m args below meth c D A nL cells slots Q ws loc (.int (f i.toNatClampNeg) :: st) (pc + 1)) : WW p l e R s m args below meth c D A nL cells slots Q ws loc (.int i :: .ref a :: st) pc := fun H locs ls hP hD hS hl => va_bald (D := D) cx.1 cx.2.1 cx.2.2.2.2.2.2.2.1 hP q0 1 ha rfl hin hd (k H locs ls hP hD hS hl)
theorem r_zald (cx : Cx p R s m args meth c D K A own cc nL ret cells slots) {a n : Nat} {f : Nat → Int32} {i : Int32} (q0 : Nat) (ha : ws[q0]? = some (a, aZ K n f)) (hin : ix i n) (hd : decode cc pc = .ok (.baload, 1)) (k : WW p l e R s m args below meth c D A nL cells slots Q ws loc (.int (f i.toNatClampNeg) :: st) (pc + 1)) : WW p l e R s m args below meth c D A nL cells slots Q ws loc (.int i :: .ref a :: st) pc := fun H locs ls hP hD hS hl => va_zald (D := D) cx.1 cx.2.1 cx.2.2.2.2.2.2.2.1 hP q0 2 ha rfl hin hd (k H locs ls hP hD hS hl)
theorem r_iast (cx : Cx p R s m args meth c D K A own cc nL ret cells slots) {a n : Nat} {f : Nat → Int32} {f' : Nat → Int32} {i x : Int32} (q0 : Nat) (ha : ws[q0]? = some (a, aI K n f)) (hin : ix i n) (hd : decode cc pc = .ok (.iastore, 1)) (hf' : f' = upd f i.toNatClampNeg x) (hws : ws.set q0 (a, aI K n f') = ws') (k : WW p l e R s m args below meth c D A nL cells slots Q ws' loc st (pc + 1)) : WW p l e R s m args below meth c D A nL cells slots Q ws loc (.int x :: .int i :: .ref a :: st) pc := fun H locs ls hP hD hS hl => by subst hf'; exact va_iast (D := D) cx.1 cx.2.1 cx.2.2.2.2.2.2.2.1 hP hD hS q0 0 ha rfl hin hd (fun H1 locs1 hP hD hS => k H1 locs1 ls (hws ▸ hP) (hws ▸ hD) hS hl)
theorem r_bast (cx : Cx p R s m args meth c D K A own cc nL ret cells slots) {a n : Nat} {f : Nat → Int32} {f' : Nat → Int32} {i x : Int32} (q0 : Nat) (ha : ws[q0]? = some (a, aB K n f)) (hin : ix i n) (hd : decode cc pc = .ok (.bastore, 1)) (hf' : f' = upd f i.toNatClampNeg (vp_nar .byte x)) (hws : ws.set q0 (a, aB K n f') = ws') (k : WW p l e R s m args below meth c D A nL cells slots Q ws' loc st (pc + 1)) : WW p l e R s m args below meth c D A nL cells slots Q ws loc (.int x :: .int i :: .ref a :: st) pc := fun H locs ls hP hD hS hl => by subst hf'; exact va_bast (D := D) cx.1 cx.2.1 cx.2.2.2.2.2.2.2.1 hP hD hS q0 1 ha rfl hin hd (fun H1 locs1 hP hD hS => k H1 locs1 ls (hws ▸ hP) (hws ▸ hD) hS hl)
theorem r_zast (cx : Cx p R s m args meth c D K A own cc nL ret cells slots) {a n : Nat} {f : Nat → Int32} {f' : Nat → Int32} {i x : Int32} (q0 : Nat) (ha : ws[q0]? = some (a, aZ K n f)) (hin : ix i n) (hd : decode cc pc = .ok (.bastore, 1)) (hf' : f' = upd f i.toNatClampNeg (vp_nar .boolean x)) (hws : ws.set q0 (a, aZ K n f') = ws') (k : WW p l e R s m args below meth c D A nL cells slots Q ws' loc st (pc + 1)) : WW p l e R s m args below meth c D A nL cells slots Q ws loc (.int x :: .int i :: .ref a :: st) pc := fun H locs ls hP hD hS hl => by subst hf'; exact va_zast (D := D) cx.1 cx.2.1 cx.2.2.2.2.2.2.2.1 hP hD hS q0 2 ha rfl hin hd (fun H1 locs1 hP hD hS => k H1 locs1 ls (hws ▸ hP) (hws ▸ hD) hS hl)
theorem r_alen (cx : Cx p R s m args meth c D K A own cc nL ret cells slots) {a n : Nat} {f : Nat → Int32} {v : Int32} (q0 : Nat) (ha : ws[q0]? = some (a, aI K n f)) (hv : Int32.ofNat n = v) (hd : decode cc pc = .ok (.arraylength, 1)) (k : WW p l e R s m args below meth c D A nL cells slots Q ws loc (.int v :: st) (pc + 1)) : WW p l e R s m args below meth c D A nL cells slots Q ws loc (.ref a :: st) pc := fun H locs ls hP hD hS hl => va_alen (D := D) cx.1 cx.2.1 cx.2.2.2.2.2.2.2.1 hP q0 0 ha rfl hv hd (k H locs ls hP hD hS hl)
theorem r_iret (cx : Cx p R s m args meth c D K A own cc nL (some .int) 0 0) {v r : Int32} (hv : v = r) (hw : ws = ws') (hd : decode cc pc = .ok (.ireturn, 1)) : WW p l e R s m args below meth c D A nL 0 0 (MQ below (QI D K A r ws') args s 0 0 A) ws loc [.int v] pc := fun H locs ls hP hD hS hl => by subst hv hw; exact W.iret cx.1 cx.2.1 cx.2.2.2.2.2.1 (fun t ht hW => ⟨⟨v, ws, rfl, ⟨rfl, rfl⟩, by rw [ht]; exact hP, va_K.moved hW.alike cx.2.2.2.2.2.2.2.1, hD⟩, hS.F ht⟩) hS.2.2 hd cx.2.2.2.2.2.2.1
theorem r_zret (cx : Cx p R s m args meth c D K A own cc nL (some .boolean) 0 0) {v r : Int32} (hz : isB v) (hv : v = r) (hw : ws = ws') (hd : decode cc pc = .ok (.ireturn, 1)) : WW p l e R s m args below meth c D A nL 0 0 (MQ below (QI D K A r ws') args s 0 0 A) ws loc [.int v] pc := fun H locs ls hP hD hS hl => by subst hv hw; exact W.zret cx.1 cx.2.1 cx.2.2.2.2.2.1 (nar_z hz) (fun t ht hW => ⟨⟨v, ws, rfl, ⟨rfl, rfl⟩, by rw [ht]; exact hP, va_K.moved hW.alike cx.2.2.2.2.2.2.2.1, hD⟩, hS.F ht⟩) hS.2.2 hd cx.2.2.2.2.2.2.1
theorem r_lret (cx : Cx p R s m args meth c D K A own cc nL (some .long) 0 0) {v r : Int64} (hv : v = r) (hw : ws = ws') (hd : decode cc pc = .ok (.lreturn, 1)) : WW p l e R s m args below meth c D A nL 0 0 (MQ below (QJ D K A r ws') args s 0 0 A) ws loc [.long v] pc := fun H locs ls hP hD hS hl => by subst hv hw; exact W.lret cx.1 cx.2.1 cx.2.2.2.2.2.1 (fun t ht hW => ⟨⟨v, ws, rfl, ⟨rfl, rfl⟩, by rw [ht]; exact hP, va_K.moved hW.alike cx.2.2.2.2.2.2.2.1, hD⟩, hS.F ht⟩) hS.2.2 hd cx.2.2.2.2.2.2.1
theorem r_dret (cx : Cx p R s m args meth c D K A own cc nL (some .double) 0 0) {v r : UInt64} (hv : v = r) (hw : ws = ws') (hd : decode cc pc = .ok (.dreturn, 1)) : WW p l e R s m args below meth c D A nL 0 0 (MQ below (QD D K A r ws') args s 0 0 A) ws loc [.double v] pc := fun H locs ls hP hD hS hl => by subst hv hw; exact W.dret cx.1 cx.2.1 cx.2.2.2.2.2.1 (fun t ht hW => ⟨⟨v, ws, rfl, ⟨rfl, rfl⟩, by rw [ht]; exact hP, va_K.moved hW.alike cx.2.2.2.2.2.2.2.1, hD⟩, hS.F ht⟩) hS.2.2 hd cx.2.2.2.2.2.2.1
theorem r_tret {ty : FieldType} (cx : Cx p R s m args meth c D K A own cc nL (some ty) 0 0) {v r : Int32} (hz : narrow ty (.int v) = .int v) (hv : v = r) (hw : ws = ws') (hd : decode cc pc = .ok (.ireturn, 1)) : WW p l e R s m args below meth c D A nL 0 0 (MQ below (QI D K A r ws') args s 0 0 A) ws loc [.int v] pc := fun H locs ls hP hD hS hl => by subst hv hw; exact W.zret cx.1 cx.2.1 cx.2.2.2.2.2.1 hz (fun t ht hW => ⟨⟨v, ws, rfl, ⟨rfl, rfl⟩, by rw [ht]; exact hP, va_K.moved hW.alike cx.2.2.2.2.2.2.2.1, hD⟩, hS.F ht⟩) hS.2.2 hd cx.2.2.2.2.2.2.1
theorem r_vret (cx : Cx p R s m args meth c D K A own cc nL none 0 0) (hw : ws = ws') (hd : decode cc pc = .ok (.return_, 1)) : WW p l e R s m args below meth c D A nL 0 0 (MQ below (QV D K A ws') args s 0 0 A) ws loc [] pc := fun H locs ls hP hD hS hl => by subst hw; exact W.vret cx.1 cx.2.1 cx.2.2.2.2.2.1 (fun t ht hW => ⟨⟨ws, rfl, rfl, by rw [ht]; exact hP, va_K.moved hW.alike cx.2.2.2.2.2.2.2.1, hD⟩, hS.F ht⟩) hS.2.2 hd cx.2.2.2.2.2.2.1
theorem r_aret {n : String} (cx : Cx p R s m args meth c D K A own cc nL (some (.object n)) 0 0) {v r : Nat} (hv : v = r) (hw : ws = ws') (hd : decode cc pc = .ok (.areturn, 1)) : WW p l e R s m args below meth c D A nL 0 0 (MQ below (QR D K A r ws') args s 0 0 A) ws loc [.ref v] pc := fun H locs ls hP hD hS hl => by subst hv hw; exact W.aret cx.1 cx.2.1 cx.2.2.2.2.2.1 (Or.inl ⟨n, rfl⟩) (Or.inr ⟨v, rfl⟩) (fun t ht hW => ⟨⟨ws, v, rfl, rfl, rfl, by rw [ht]; exact hP, va_K.moved hW.alike cx.2.2.2.2.2.2.2.1, hD⟩, hS.F ht⟩) hS.2.2 hd cx.2.2.2.2.2.2.1
theorem MI_of {l : Launch} {y : MethodName} {b : ByteArray} {n : Nat} {ret : Option FieldType} {rm : Room} {D : va_G} {K : Nat → ClassId} {As : List Value} {ws ws' : va_W} {r : Int32} {loc0 : List (Nat × Value)} (hy : plainFor y = true) (hl0 : lv_args 0 As = loc0) (hn : (lg_sl As).length ≤ n)
    (h : ∀ (p : Program) (e : Env) (s : State) (m : MethodId) (args : Array Value) (below : List Frame) (meth : Method) (c : Code) (A : Nat → Prop), Cx p rm s m args meth c D K A y.cls b n ret 0 0 → WW p l e rm s m args below meth c D A n 0 0 (MQ below (QI D K A r ws') args s 0 0 A) ws loc0 [] 0) : MI l y b n ret rm D K As ws r ws' := by
  intro sz
  refine ofWF (cc := b) (maxL := n) (ret := ret) hy rfl ?_
  intro p e s m args below meth c s₁ B hml hv
  obtain ⟨rfl, hsz, hP, hK, hD0, hSS⟩ := hv
  have hts := atoms_spec (ws := Wd y b n ret) B.pre
  subst hsz
  have hD := hD0.self (sz := s.heap.size)
  have hA : ∀ q : Nat, s.heap.size ≤ q → va_A ws s.heap.size q := fun q h => Or.inr h
  generalize va_A ws s.heap.size = A at hD hA hSS ⊢
  have hl := lv_entry As (n := n) hn
  rw [lg_entry_eq]
  generalize (lg_sl As ++ List.replicate (n - (lg_sl As).length) Slot.unset).toArray = ls at hl ⊢
  rw [hl0] at hl
  exact h p e s m _ below meth c A ⟨B.exec, B.bytes, hml, findClass_of_methodNamed B.named, fun w hw => hts w (List.mem_cons_of_mem _ hw), B.returns, B.notSynchronized, hK, hA, Nat.zero_le _, Nat.zero_le _, hSS⟩ s.heap [] ls hP hD va_S.rf hl
theorem MJ_of {l : Launch} {y : MethodName} {b : ByteArray} {n : Nat} {ret : Option FieldType} {rm : Room} {D : va_G} {K : Nat → ClassId} {As : List Value} {ws ws' : va_W} {r : Int64} {loc0 : List (Nat × Value)} (hy : plainFor y = true) (hl0 : lv_args 0 As = loc0) (hn : (lg_sl As).length ≤ n)
    (h : ∀ (p : Program) (e : Env) (s : State) (m : MethodId) (args : Array Value) (below : List Frame) (meth : Method) (c : Code) (A : Nat → Prop), Cx p rm s m args meth c D K A y.cls b n ret 0 0 → WW p l e rm s m args below meth c D A n 0 0 (MQ below (QJ D K A r ws') args s 0 0 A) ws loc0 [] 0) : MJ l y b n ret rm D K As ws r ws' := by
  intro sz
  refine ofWF (cc := b) (maxL := n) (ret := ret) hy rfl ?_
  intro p e s m args below meth c s₁ B hml hv
  obtain ⟨rfl, hsz, hP, hK, hD0, hSS⟩ := hv
  have hts := atoms_spec (ws := Wd y b n ret) B.pre
  subst hsz
  have hD := hD0.self (sz := s.heap.size)
  have hA : ∀ q : Nat, s.heap.size ≤ q → va_A ws s.heap.size q := fun q h => Or.inr h
  generalize va_A ws s.heap.size = A at hD hA hSS ⊢
  have hl := lv_entry As (n := n) hn
  rw [lg_entry_eq]
  generalize (lg_sl As ++ List.replicate (n - (lg_sl As).length) Slot.unset).toArray = ls at hl ⊢
  rw [hl0] at hl
  exact h p e s m _ below meth c A ⟨B.exec, B.bytes, hml, findClass_of_methodNamed B.named, fun w hw => hts w (List.mem_cons_of_mem _ hw), B.returns, B.notSynchronized, hK, hA, Nat.zero_le _, Nat.zero_le _, hSS⟩ s.heap [] ls hP hD va_S.rf hl
theorem MD_of {l : Launch} {y : MethodName} {b : ByteArray} {n : Nat} {ret : Option FieldType} {rm : Room} {D : va_G} {K : Nat → ClassId} {As : List Value} {ws ws' : va_W} {r : UInt64} {loc0 : List (Nat × Value)} (hy : plainFor y = true) (hl0 : lv_args 0 As = loc0) (hn : (lg_sl As).length ≤ n)
    (h : ∀ (p : Program) (e : Env) (s : State) (m : MethodId) (args : Array Value) (below : List Frame) (meth : Method) (c : Code) (A : Nat → Prop), Cx p rm s m args meth c D K A y.cls b n ret 0 0 → WW p l e rm s m args below meth c D A n 0 0 (MQ below (QD D K A r ws') args s 0 0 A) ws loc0 [] 0) : MD l y b n ret rm D K As ws r ws' := by
  intro sz
  refine ofWF (cc := b) (maxL := n) (ret := ret) hy rfl ?_
  intro p e s m args below meth c s₁ B hml hv
  obtain ⟨rfl, hsz, hP, hK, hD0, hSS⟩ := hv
  have hts := atoms_spec (ws := Wd y b n ret) B.pre
  subst hsz
  have hD := hD0.self (sz := s.heap.size)
  have hA : ∀ q : Nat, s.heap.size ≤ q → va_A ws s.heap.size q := fun q h => Or.inr h
  generalize va_A ws s.heap.size = A at hD hA hSS ⊢
  have hl := lv_entry As (n := n) hn
  rw [lg_entry_eq]
  generalize (lg_sl As ++ List.replicate (n - (lg_sl As).length) Slot.unset).toArray = ls at hl ⊢
  rw [hl0] at hl
  exact h p e s m _ below meth c A ⟨B.exec, B.bytes, hml, findClass_of_methodNamed B.named, fun w hw => hts w (List.mem_cons_of_mem _ hw), B.returns, B.notSynchronized, hK, hA, Nat.zero_le _, Nat.zero_le _, hSS⟩ s.heap [] ls hP hD va_S.rf hl
theorem MV_of {l : Launch} {y : MethodName} {b : ByteArray} {n : Nat} {ret : Option FieldType} {rm : Room} {D : va_G} {K : Nat → ClassId} {As : List Value} {ws ws' : va_W}  {loc0 : List (Nat × Value)} (hy : plainFor y = true) (hl0 : lv_args 0 As = loc0) (hn : (lg_sl As).length ≤ n)
    (h : ∀ (p : Program) (e : Env) (s : State) (m : MethodId) (args : Array Value) (below : List Frame) (meth : Method) (c : Code) (A : Nat → Prop), Cx p rm s m args meth c D K A y.cls b n ret 0 0 → WW p l e rm s m args below meth c D A n 0 0 (MQ below (QV D K A ws') args s 0 0 A) ws loc0 [] 0) : MV l y b n ret rm D K As ws  ws' := by
  intro sz
  refine ofWF (cc := b) (maxL := n) (ret := ret) hy rfl ?_
  intro p e s m args below meth c s₁ B hml hv
  obtain ⟨rfl, hsz, hP, hK, hD0, hSS⟩ := hv
  have hts := atoms_spec (ws := Wd y b n ret) B.pre
  subst hsz
  have hD := hD0.self (sz := s.heap.size)
  have hA : ∀ q : Nat, s.heap.size ≤ q → va_A ws s.heap.size q := fun q h => Or.inr h
  generalize va_A ws s.heap.size = A at hD hA hSS ⊢
  have hl := lv_entry As (n := n) hn
  rw [lg_entry_eq]
  generalize (lg_sl As ++ List.replicate (n - (lg_sl As).length) Slot.unset).toArray = ls at hl ⊢
  rw [hl0] at hl
  exact h p e s m _ below meth c A ⟨B.exec, B.bytes, hml, findClass_of_methodNamed B.named, fun w hw => hts w (List.mem_cons_of_mem _ hw), B.returns, B.notSynchronized, hK, hA, Nat.zero_le _, Nat.zero_le _, hSS⟩ s.heap [] ls hP hD va_S.rf hl
theorem MR_of {l : Launch} {y : MethodName} {b : ByteArray} {n : Nat} {ret : Option FieldType} {rm : Room} {D : va_G} {K : Nat → ClassId} {As : List Value} {ws ws' : va_W} {r : Nat} {loc0 : List (Nat × Value)} (hy : plainFor y = true) (hl0 : lv_args 0 As = loc0) (hn : (lg_sl As).length ≤ n)
    (h : ∀ (p : Program) (e : Env) (s : State) (m : MethodId) (args : Array Value) (below : List Frame) (meth : Method) (c : Code) (A : Nat → Prop), Cx p rm s m args meth c D K A y.cls b n ret 0 0 → WW p l e rm s m args below meth c D A n 0 0 (MQ below (QR D K A r ws') args s 0 0 A) ws loc0 [] 0) : MR l y b n ret rm D K As ws r ws' := by
  intro sz
  refine ofWF (cc := b) (maxL := n) (ret := ret) hy rfl ?_
  intro p e s m args below meth c s₁ B hml hv
  obtain ⟨rfl, hsz, hP, hK, hD0, hSS⟩ := hv
  have hts := atoms_spec (ws := Wd y b n ret) B.pre
  subst hsz
  have hD := hD0.self (sz := s.heap.size)
  have hA : ∀ q : Nat, s.heap.size ≤ q → va_A ws s.heap.size q := fun q h => Or.inr h
  generalize va_A ws s.heap.size = A at hD hA hSS ⊢
  have hl := lv_entry As (n := n) hn
  rw [lg_entry_eq]
  generalize (lg_sl As ++ List.replicate (n - (lg_sl As).length) Slot.unset).toArray = ls at hl ⊢
  rw [hl0] at hl
  exact h p e s m _ below meth c A ⟨B.exec, B.bytes, hml, findClass_of_methodNamed B.named, fun w hw => hts w (List.mem_cons_of_mem _ hw), B.returns, B.notSynchronized, hK, hA, Nat.zero_le _, Nat.zero_le _, hSS⟩ s.heap [] ls hP hD va_S.rf hl
theorem r_Vi (cx : Cx p R s m args meth c D K A own cc nL ret cells slots) {y : MethodName} {b : ByteArray} {maxL : Nat} {rt : Option FieldType} {rm : Room} {wc0 wc w1 : va_W} {r : Int32} {b0 : Nat} {ix : Nat} (As : List Value) (rest : List Value) {ms : List (Option Nat)} {nn : Nat} (hM : MI l y b maxL rt rm D K (.ref b0 :: As) wc0 r w1) (hw0 : wc0 = wc) (hy : YV y b maxL rt As.length) (hlk : Cond.methodLink own ix y ∈ WALL) (hrm : rm.cells = 0 ∧ rm.slots = 0) (hR : rm.frames + 1 ≤ R.frames ∧ 8 + (maxL + 11) + rm.locals ≤ R.locals)
    (hfr : Fr wc w1 ws ws' ms) (hnn : wc.length = nn) (hcov : cov ms nn = true) (q0 : Nat) {ci : Nat} {fs : List Value} {T : u_T} {N : Nat} (he : ws[q0]? = some (b0, .inr (ci, fs))) (hcl : vwCl[ci]? = some (y.cls, T, N)) (hst : st = As.reverse ++ .ref b0 :: rest) (hcat : (rest.map fun v => v.category).sum ≤ 8) (hd : decode cc pc = .ok (.invokevirtual ix, 3)) (kk : WW p l e R s m args below meth c D A nL cells slots Q ws' loc (.int r :: rest) (pc + 3)) : WW p l e R s m args below meth c D A nL cells slots Q ws loc st pc := by
  subst hst hw0
  intro H locs ls hP hD hS hl
  obtain ⟨hPc, hDc, hFc0, hback⟩ := fr_PD hfr hnn hcov hP hD
  have hFc := hFc0 (fun q h => cx.2.2.2.2.2.2.2.2.1 q (Nat.le_trans hS.1 h))
  refine va_calli (va_runV (As := As) (rest := rest) ⟨cx.1, cx.2.1, cx.2.2.1, cx.2.2.2.1, cx.2.2.2.2.1⟩ (hM H.size) (⟨callB_of As.length cx.2.2.2.2.1 (wall_in hy.2.1) rfl hrm.1 hrm.2 (cx.2.2.2.2.1 _ hy.2.2.1) (cx.2.2.2.2.1 _ hlk) hy.1 hR, cx.2.2.2.2.1 _ hy.2.2.2.1, cx.2.2.2.2.1 _ hy.2.2.2.2⟩) ⟨(fun a U g mk q => by obtain ⟨q0, q1, qP, qK, qD, qS⟩ := q; exact ⟨q0, q1, qP, va_K.moved (u := U) (U := U.calling g mk a) (Vm.Alike.refl U.vm) qK, qD, SS.same (u := U) (U := U.calling g mk a) rfl qS⟩), va_recv cx.2.2.2.2.2.2.2.1 hP hcl he, fun U hU hW => ⟨rfl, by rw [hU], by rw [hU]; exact hPc, va_K.moved hW.alike cx.2.2.2.2.2.2.2.1, hDc, by rw [hU]; exact (((cx.2.2.2.2.2.2.2.2.2.2.2).kept hS.2.1).narrow hFc).warm hW⟩⟩ rfl rfl hl.1 rfl (by show 2 * 0 + _ ≤ 8; omega) hd ⟨cx.2.2.2.2.2.2.2.2.2.1, cx.2.2.2.2.2.2.2.2.2.2.1⟩) hS (fun q _ h => hFc q h) hFc (fun r_ u t H1 locs1 ht hvm hw hB hz1 hk1 hS1 => ?_)
  · obtain ⟨rfl, rfl⟩ := hw
    obtain ⟨hP1, -, -⟩ := hB
    rw [ht] at hP1
    obtain ⟨hP2, hD2⟩ := hback H1 hk1 hP1
    exact kk H1 locs1 ls hP2 hD2 hS1 hl
theorem r_Vv (cx : Cx p R s m args meth c D K A own cc nL ret cells slots) {y : MethodName} {b : ByteArray} {maxL : Nat} {rt : Option FieldType} {rm : Room} {wc0 wc w1 : va_W} {b0 : Nat} {ix : Nat} (As : List Value) (rest : List Value) {ms : List (Option Nat)} {nn : Nat} (hM : MV l y b maxL rt rm D K (.ref b0 :: As) wc0 w1) (hw0 : wc0 = wc) (hy : YV y b maxL rt As.length) (hlk : Cond.methodLink own ix y ∈ WALL) (hrm : rm.cells = 0 ∧ rm.slots = 0) (hR : rm.frames + 1 ≤ R.frames ∧ 8 + (maxL + 11) + rm.locals ≤ R.locals)
    (hfr : Fr wc w1 ws ws' ms) (hnn : wc.length = nn) (hcov : cov ms nn = true) (q0 : Nat) {ci : Nat} {fs : List Value} {T : u_T} {N : Nat} (he : ws[q0]? = some (b0, .inr (ci, fs))) (hcl : vwCl[ci]? = some (y.cls, T, N)) (hst : st = As.reverse ++ .ref b0 :: rest) (hcat : (rest.map fun v => v.category).sum ≤ 8) (hd : decode cc pc = .ok (.invokevirtual ix, 3)) (kk : WW p l e R s m args below meth c D A nL cells slots Q ws' loc (rest) (pc + 3)) : WW p l e R s m args below meth c D A nL cells slots Q ws loc st pc := by
  subst hst hw0
  intro H locs ls hP hD hS hl
  obtain ⟨hPc, hDc, hFc0, hback⟩ := fr_PD hfr hnn hcov hP hD
  have hFc := hFc0 (fun q h => cx.2.2.2.2.2.2.2.2.1 q (Nat.le_trans hS.1 h))
  refine va_callv (va_runV (As := As) (rest := rest) ⟨cx.1, cx.2.1, cx.2.2.1, cx.2.2.2.1, cx.2.2.2.2.1⟩ (hM H.size) (⟨callB_of As.length cx.2.2.2.2.1 (wall_in hy.2.1) rfl hrm.1 hrm.2 (cx.2.2.2.2.1 _ hy.2.2.1) (cx.2.2.2.2.1 _ hlk) hy.1 hR, cx.2.2.2.2.1 _ hy.2.2.2.1, cx.2.2.2.2.1 _ hy.2.2.2.2⟩) ⟨(fun a U g mk q => by obtain ⟨q0, q1, qP, qK, qD, qS⟩ := q; exact ⟨q0, q1, qP, va_K.moved (u := U) (U := U.calling g mk a) (Vm.Alike.refl U.vm) qK, qD, SS.same (u := U) (U := U.calling g mk a) rfl qS⟩), va_recv cx.2.2.2.2.2.2.2.1 hP hcl he, fun U hU hW => ⟨rfl, by rw [hU], by rw [hU]; exact hPc, va_K.moved hW.alike cx.2.2.2.2.2.2.2.1, hDc, by rw [hU]; exact (((cx.2.2.2.2.2.2.2.2.2.2.2).kept hS.2.1).narrow hFc).warm hW⟩⟩ rfl rfl hl.1 rfl (by show 2 * 0 + _ ≤ 8; omega) hd ⟨cx.2.2.2.2.2.2.2.2.2.1, cx.2.2.2.2.2.2.2.2.2.2.1⟩) hS (fun q _ h => hFc q h) hFc (fun u t H1 locs1 ht hvm hw hB hz1 hk1 hS1 => ?_)
  · obtain rfl := hw
    obtain ⟨hP1, -, -⟩ := hB
    rw [ht] at hP1
    obtain ⟨hP2, hD2⟩ := hback H1 hk1 hP1
    exact kk H1 locs1 ls hP2 hD2 hS1 hl
theorem r_Vl (cx : Cx p R s m args meth c D K A own cc nL ret cells slots) {y : MethodName} {b : ByteArray} {maxL : Nat} {rt : Option FieldType} {rm : Room} {wc0 wc w1 : va_W} {r : Int64} {b0 : Nat} {ix : Nat} (As : List Value) (rest : List Value) {ms : List (Option Nat)} {nn : Nat} (hM : MJ l y b maxL rt rm D K (.ref b0 :: As) wc0 r w1) (hw0 : wc0 = wc) (hy : YV y b maxL rt As.length) (hlk : Cond.methodLink own ix y ∈ WALL) (hrm : rm.cells = 0 ∧ rm.slots = 0) (hR : rm.frames + 1 ≤ R.frames ∧ 8 + (maxL + 11) + rm.locals ≤ R.locals)
    (hfr : Fr wc w1 ws ws' ms) (hnn : wc.length = nn) (hcov : cov ms nn = true) (q0 : Nat) {ci : Nat} {fs : List Value} {T : u_T} {N : Nat} (he : ws[q0]? = some (b0, .inr (ci, fs))) (hcl : vwCl[ci]? = some (y.cls, T, N)) (hst : st = As.reverse ++ .ref b0 :: rest) (hcat : (rest.map fun v => v.category).sum ≤ 8) (hd : decode cc pc = .ok (.invokevirtual ix, 3)) (kk : WW p l e R s m args below meth c D A nL cells slots Q ws' loc (.long r :: rest) (pc + 3)) : WW p l e R s m args below meth c D A nL cells slots Q ws loc st pc := by
  subst hst hw0
  intro H locs ls hP hD hS hl
  obtain ⟨hPc, hDc, hFc0, hback⟩ := fr_PD hfr hnn hcov hP hD
  have hFc := hFc0 (fun q h => cx.2.2.2.2.2.2.2.2.1 q (Nat.le_trans hS.1 h))
  refine va_calll (va_runV (As := As) (rest := rest) ⟨cx.1, cx.2.1, cx.2.2.1, cx.2.2.2.1, cx.2.2.2.2.1⟩ (hM H.size) (⟨callB_of As.length cx.2.2.2.2.1 (wall_in hy.2.1) rfl hrm.1 hrm.2 (cx.2.2.2.2.1 _ hy.2.2.1) (cx.2.2.2.2.1 _ hlk) hy.1 hR, cx.2.2.2.2.1 _ hy.2.2.2.1, cx.2.2.2.2.1 _ hy.2.2.2.2⟩) ⟨(fun a U g mk q => by obtain ⟨q0, q1, qP, qK, qD, qS⟩ := q; exact ⟨q0, q1, qP, va_K.moved (u := U) (U := U.calling g mk a) (Vm.Alike.refl U.vm) qK, qD, SS.same (u := U) (U := U.calling g mk a) rfl qS⟩), va_recv cx.2.2.2.2.2.2.2.1 hP hcl he, fun U hU hW => ⟨rfl, by rw [hU], by rw [hU]; exact hPc, va_K.moved hW.alike cx.2.2.2.2.2.2.2.1, hDc, by rw [hU]; exact (((cx.2.2.2.2.2.2.2.2.2.2.2).kept hS.2.1).narrow hFc).warm hW⟩⟩ rfl rfl hl.1 rfl (by show 2 * 0 + _ ≤ 8; omega) hd ⟨cx.2.2.2.2.2.2.2.2.2.1, cx.2.2.2.2.2.2.2.2.2.2.1⟩) hS (fun q _ h => hFc q h) hFc (fun r_ u t H1 locs1 ht hvm hw hB hz1 hk1 hS1 => ?_)
  · obtain ⟨rfl, rfl⟩ := hw
    obtain ⟨hP1, -, -⟩ := hB
    rw [ht] at hP1
    obtain ⟨hP2, hD2⟩ := hback H1 hk1 hP1
    exact kk H1 locs1 ls hP2 hD2 hS1 hl
theorem r_Vd (cx : Cx p R s m args meth c D K A own cc nL ret cells slots) {y : MethodName} {b : ByteArray} {maxL : Nat} {rt : Option FieldType} {rm : Room} {wc0 wc w1 : va_W} {r : UInt64} {b0 : Nat} {ix : Nat} (As : List Value) (rest : List Value) {ms : List (Option Nat)} {nn : Nat} (hM : MD l y b maxL rt rm D K (.ref b0 :: As) wc0 r w1) (hw0 : wc0 = wc) (hy : YV y b maxL rt As.length) (hlk : Cond.methodLink own ix y ∈ WALL) (hrm : rm.cells = 0 ∧ rm.slots = 0) (hR : rm.frames + 1 ≤ R.frames ∧ 8 + (maxL + 11) + rm.locals ≤ R.locals)
    (hfr : Fr wc w1 ws ws' ms) (hnn : wc.length = nn) (hcov : cov ms nn = true) (q0 : Nat) {ci : Nat} {fs : List Value} {T : u_T} {N : Nat} (he : ws[q0]? = some (b0, .inr (ci, fs))) (hcl : vwCl[ci]? = some (y.cls, T, N)) (hst : st = As.reverse ++ .ref b0 :: rest) (hcat : (rest.map fun v => v.category).sum ≤ 8) (hd : decode cc pc = .ok (.invokevirtual ix, 3)) (kk : WW p l e R s m args below meth c D A nL cells slots Q ws' loc (.double r :: rest) (pc + 3)) : WW p l e R s m args below meth c D A nL cells slots Q ws loc st pc := by
  subst hst hw0
  intro H locs ls hP hD hS hl
  obtain ⟨hPc, hDc, hFc0, hback⟩ := fr_PD hfr hnn hcov hP hD
  have hFc := hFc0 (fun q h => cx.2.2.2.2.2.2.2.2.1 q (Nat.le_trans hS.1 h))
  refine va_calld (va_runV (As := As) (rest := rest) ⟨cx.1, cx.2.1, cx.2.2.1, cx.2.2.2.1, cx.2.2.2.2.1⟩ (hM H.size) (⟨callB_of As.length cx.2.2.2.2.1 (wall_in hy.2.1) rfl hrm.1 hrm.2 (cx.2.2.2.2.1 _ hy.2.2.1) (cx.2.2.2.2.1 _ hlk) hy.1 hR, cx.2.2.2.2.1 _ hy.2.2.2.1, cx.2.2.2.2.1 _ hy.2.2.2.2⟩) ⟨(fun a U g mk q => by obtain ⟨q0, q1, qP, qK, qD, qS⟩ := q; exact ⟨q0, q1, qP, va_K.moved (u := U) (U := U.calling g mk a) (Vm.Alike.refl U.vm) qK, qD, SS.same (u := U) (U := U.calling g mk a) rfl qS⟩), va_recv cx.2.2.2.2.2.2.2.1 hP hcl he, fun U hU hW => ⟨rfl, by rw [hU], by rw [hU]; exact hPc, va_K.moved hW.alike cx.2.2.2.2.2.2.2.1, hDc, by rw [hU]; exact (((cx.2.2.2.2.2.2.2.2.2.2.2).kept hS.2.1).narrow hFc).warm hW⟩⟩ rfl rfl hl.1 rfl (by show 2 * 0 + _ ≤ 8; omega) hd ⟨cx.2.2.2.2.2.2.2.2.2.1, cx.2.2.2.2.2.2.2.2.2.2.1⟩) hS (fun q _ h => hFc q h) hFc (fun r_ u t H1 locs1 ht hvm hw hB hz1 hk1 hS1 => ?_)
  · obtain ⟨rfl, rfl⟩ := hw
    obtain ⟨hP1, -, -⟩ := hB
    rw [ht] at hP1
    obtain ⟨hP2, hD2⟩ := hback H1 hk1 hP1
    exact kk H1 locs1 ls hP2 hD2 hS1 hl
theorem r_Vr (cx : Cx p R s m args meth c D K A own cc nL ret cells slots) {y : MethodName} {b : ByteArray} {maxL : Nat} {rt : Option FieldType} {rm : Room} {wc0 wc w1 : va_W} {r : Nat} {b0 : Nat} {ix : Nat} (As : List Value) (rest : List Value) {ms : List (Option Nat)} {nn : Nat} (hM : MR l y b maxL rt rm D K (.ref b0 :: As) wc0 r w1) (hw0 : wc0 = wc) (hy : YV y b maxL rt As.length) (hlk : Cond.methodLink own ix y ∈ WALL) (hrm : rm.cells = 0 ∧ rm.slots = 0) (hR : rm.frames + 1 ≤ R.frames ∧ 8 + (maxL + 11) + rm.locals ≤ R.locals)
    (hfr : Fr wc w1 ws ws' ms) (hnn : wc.length = nn) (hcov : cov ms nn = true) (q0 : Nat) {ci : Nat} {fs : List Value} {T : u_T} {N : Nat} (he : ws[q0]? = some (b0, .inr (ci, fs))) (hcl : vwCl[ci]? = some (y.cls, T, N)) (hst : st = As.reverse ++ .ref b0 :: rest) (hcat : (rest.map fun v => v.category).sum ≤ 8) (hd : decode cc pc = .ok (.invokevirtual ix, 3)) (kk : WW p l e R s m args below meth c D A nL cells slots Q ws' loc (.ref r :: rest) (pc + 3)) : WW p l e R s m args below meth c D A nL cells slots Q ws loc st pc := by
  subst hst hw0
  intro H locs ls hP hD hS hl
  obtain ⟨hPc, hDc, hFc0, hback⟩ := fr_PD hfr hnn hcov hP hD
  have hFc := hFc0 (fun q h => cx.2.2.2.2.2.2.2.2.1 q (Nat.le_trans hS.1 h))
  refine va_callr (va_runV (As := As) (rest := rest) ⟨cx.1, cx.2.1, cx.2.2.1, cx.2.2.2.1, cx.2.2.2.2.1⟩ (hM H.size) (⟨callB_of As.length cx.2.2.2.2.1 (wall_in hy.2.1) rfl hrm.1 hrm.2 (cx.2.2.2.2.1 _ hy.2.2.1) (cx.2.2.2.2.1 _ hlk) hy.1 hR, cx.2.2.2.2.1 _ hy.2.2.2.1, cx.2.2.2.2.1 _ hy.2.2.2.2⟩) ⟨(fun a U g mk q => by obtain ⟨q0, q1, qP, qK, qD, qS⟩ := q; exact ⟨q0, q1, qP, va_K.moved (u := U) (U := U.calling g mk a) (Vm.Alike.refl U.vm) qK, qD, SS.same (u := U) (U := U.calling g mk a) rfl qS⟩), va_recv cx.2.2.2.2.2.2.2.1 hP hcl he, fun U hU hW => ⟨rfl, by rw [hU], by rw [hU]; exact hPc, va_K.moved hW.alike cx.2.2.2.2.2.2.2.1, hDc, by rw [hU]; exact (((cx.2.2.2.2.2.2.2.2.2.2.2).kept hS.2.1).narrow hFc).warm hW⟩⟩ rfl rfl hl.1 rfl (by show 2 * 0 + _ ≤ 8; omega) hd ⟨cx.2.2.2.2.2.2.2.2.2.1, cx.2.2.2.2.2.2.2.2.2.2.1⟩) hS (fun q _ h => hFc q h) hFc (fun u ra_ t H1 locs1 ht hvm hw hB hz1 hk1 hS1 => ?_)
  · obtain rfl := hw
    obtain ⟨rfl, hP1, -, -⟩ := hB
    rw [ht] at hP1
    obtain ⟨hP2, hD2⟩ := hback H1 hk1 hP1
    exact kk H1 locs1 ls hP2 hD2 hS1 hl
theorem r_Si (cx : Cx p R s m args meth c D K A own cc nL ret cells slots) {y : MethodName} {b : ByteArray} {maxL : Nat} {rt : Option FieldType} {rm : Room} {wc0 wc w1 : va_W} {r : Int32} {ix : Nat} (As : List Value) (rest : List Value) {ms : List (Option Nat)} {nn : Nat} (hM : MI l y b maxL rt rm D K As wc0 r w1) (hw0 : wc0 = wc) (hy : YS y b maxL rt As.length) (hlk : Cond.methodLink own ix y ∈ WALL) (hrm : rm.cells = 0 ∧ rm.slots = 0) (hR : rm.frames + 1 ≤ R.frames ∧ 8 + (maxL + 11) + rm.locals ≤ R.locals)
    (hfr : Fr wc w1 ws ws' ms) (hnn : wc.length = nn) (hcov : cov ms nn = true) (hst : st = As.reverse ++ rest) (hcat : (rest.map fun v => v.category).sum ≤ 8) (hd : decode cc pc = .ok (.invokestatic ix, 3)) (kk : WW p l e R s m args below meth c D A nL cells slots Q ws' loc (.int r :: rest) (pc + 3)) : WW p l e R s m args below meth c D A nL cells slots Q ws loc st pc := by
  subst hst hw0
  intro H locs ls hP hD hS hl
  obtain ⟨hPc, hDc, hFc0, hback⟩ := fr_PD hfr hnn hcov hP hD
  have hFc := hFc0 (fun q h => cx.2.2.2.2.2.2.2.2.1 q (Nat.le_trans hS.1 h))
  refine va_calli (va_runS (As := As) (rest := rest) ⟨cx.1, cx.2.1, cx.2.2.1, cx.2.2.2.1, cx.2.2.2.2.1⟩ (hM H.size) (⟨callB_of As.length cx.2.2.2.2.1 (wall_in hy.2.1) rfl hrm.1 hrm.2 (cx.2.2.2.2.1 _ hy.2.2.1) (cx.2.2.2.2.1 _ hlk) hy.1 hR, cx.2.2.2.2.1 _ hy.2.2.2⟩) ⟨(fun a U g mk q => by obtain ⟨q0, q1, qP, qK, qD, qS⟩ := q; exact ⟨q0, q1, qP, va_K.moved (u := U) (U := U.calling g mk a) (Vm.Alike.refl U.vm) qK, qD, SS.same (u := U) (U := U.calling g mk a) rfl qS⟩), fun U hU hW => ⟨rfl, by rw [hU], by rw [hU]; exact hPc, va_K.moved hW.alike cx.2.2.2.2.2.2.2.1, hDc, by rw [hU]; exact (((cx.2.2.2.2.2.2.2.2.2.2.2).kept hS.2.1).narrow hFc).warm hW⟩⟩ rfl rfl hl.1 rfl (by show 2 * 0 + _ ≤ 8; omega) hd ⟨cx.2.2.2.2.2.2.2.2.2.1, cx.2.2.2.2.2.2.2.2.2.2.1⟩) hS (fun q _ h => hFc q h) hFc (fun r_ u t H1 locs1 ht hvm hw hB hz1 hk1 hS1 => ?_)
  · obtain ⟨rfl, rfl⟩ := hw
    obtain ⟨hP1, -, -⟩ := hB
    rw [ht] at hP1
    obtain ⟨hP2, hD2⟩ := hback H1 hk1 hP1
    exact kk H1 locs1 ls hP2 hD2 hS1 hl
theorem r_Sv (cx : Cx p R s m args meth c D K A own cc nL ret cells slots) {y : MethodName} {b : ByteArray} {maxL : Nat} {rt : Option FieldType} {rm : Room} {wc0 wc w1 : va_W} {ix : Nat} (As : List Value) (rest : List Value) {ms : List (Option Nat)} {nn : Nat} (hM : MV l y b maxL rt rm D K As wc0 w1) (hw0 : wc0 = wc) (hy : YS y b maxL rt As.length) (hlk : Cond.methodLink own ix y ∈ WALL) (hrm : rm.cells = 0 ∧ rm.slots = 0) (hR : rm.frames + 1 ≤ R.frames ∧ 8 + (maxL + 11) + rm.locals ≤ R.locals)
    (hfr : Fr wc w1 ws ws' ms) (hnn : wc.length = nn) (hcov : cov ms nn = true) (hst : st = As.reverse ++ rest) (hcat : (rest.map fun v => v.category).sum ≤ 8) (hd : decode cc pc = .ok (.invokestatic ix, 3)) (kk : WW p l e R s m args below meth c D A nL cells slots Q ws' loc (rest) (pc + 3)) : WW p l e R s m args below meth c D A nL cells slots Q ws loc st pc := by
  subst hst hw0
  intro H locs ls hP hD hS hl
  obtain ⟨hPc, hDc, hFc0, hback⟩ := fr_PD hfr hnn hcov hP hD
  have hFc := hFc0 (fun q h => cx.2.2.2.2.2.2.2.2.1 q (Nat.le_trans hS.1 h))
  refine va_callv (va_runS (As := As) (rest := rest) ⟨cx.1, cx.2.1, cx.2.2.1, cx.2.2.2.1, cx.2.2.2.2.1⟩ (hM H.size) (⟨callB_of As.length cx.2.2.2.2.1 (wall_in hy.2.1) rfl hrm.1 hrm.2 (cx.2.2.2.2.1 _ hy.2.2.1) (cx.2.2.2.2.1 _ hlk) hy.1 hR, cx.2.2.2.2.1 _ hy.2.2.2⟩) ⟨(fun a U g mk q => by obtain ⟨q0, q1, qP, qK, qD, qS⟩ := q; exact ⟨q0, q1, qP, va_K.moved (u := U) (U := U.calling g mk a) (Vm.Alike.refl U.vm) qK, qD, SS.same (u := U) (U := U.calling g mk a) rfl qS⟩), fun U hU hW => ⟨rfl, by rw [hU], by rw [hU]; exact hPc, va_K.moved hW.alike cx.2.2.2.2.2.2.2.1, hDc, by rw [hU]; exact (((cx.2.2.2.2.2.2.2.2.2.2.2).kept hS.2.1).narrow hFc).warm hW⟩⟩ rfl rfl hl.1 rfl (by show 2 * 0 + _ ≤ 8; omega) hd ⟨cx.2.2.2.2.2.2.2.2.2.1, cx.2.2.2.2.2.2.2.2.2.2.1⟩) hS (fun q _ h => hFc q h) hFc (fun u t H1 locs1 ht hvm hw hB hz1 hk1 hS1 => ?_)
  · obtain rfl := hw
    obtain ⟨hP1, -, -⟩ := hB
    rw [ht] at hP1
    obtain ⟨hP2, hD2⟩ := hback H1 hk1 hP1
    exact kk H1 locs1 ls hP2 hD2 hS1 hl
theorem r_Sl (cx : Cx p R s m args meth c D K A own cc nL ret cells slots) {y : MethodName} {b : ByteArray} {maxL : Nat} {rt : Option FieldType} {rm : Room} {wc0 wc w1 : va_W} {r : Int64} {ix : Nat} (As : List Value) (rest : List Value) {ms : List (Option Nat)} {nn : Nat} (hM : MJ l y b maxL rt rm D K As wc0 r w1) (hw0 : wc0 = wc) (hy : YS y b maxL rt As.length) (hlk : Cond.methodLink own ix y ∈ WALL) (hrm : rm.cells = 0 ∧ rm.slots = 0) (hR : rm.frames + 1 ≤ R.frames ∧ 8 + (maxL + 11) + rm.locals ≤ R.locals)
    (hfr : Fr wc w1 ws ws' ms) (hnn : wc.length = nn) (hcov : cov ms nn = true) (hst : st = As.reverse ++ rest) (hcat : (rest.map fun v => v.category).sum ≤ 8) (hd : decode cc pc = .ok (.invokestatic ix, 3)) (kk : WW p l e R s m args below meth c D A nL cells slots Q ws' loc (.long r :: rest) (pc + 3)) : WW p l e R s m args below meth c D A nL cells slots Q ws loc st pc := by
  subst hst hw0
  intro H locs ls hP hD hS hl
  obtain ⟨hPc, hDc, hFc0, hback⟩ := fr_PD hfr hnn hcov hP hD
  have hFc := hFc0 (fun q h => cx.2.2.2.2.2.2.2.2.1 q (Nat.le_trans hS.1 h))
  refine va_calll (va_runS (As := As) (rest := rest) ⟨cx.1, cx.2.1, cx.2.2.1, cx.2.2.2.1, cx.2.2.2.2.1⟩ (hM H.size) (⟨callB_of As.length cx.2.2.2.2.1 (wall_in hy.2.1) rfl hrm.1 hrm.2 (cx.2.2.2.2.1 _ hy.2.2.1) (cx.2.2.2.2.1 _ hlk) hy.1 hR, cx.2.2.2.2.1 _ hy.2.2.2⟩) ⟨(fun a U g mk q => by obtain ⟨q0, q1, qP, qK, qD, qS⟩ := q; exact ⟨q0, q1, qP, va_K.moved (u := U) (U := U.calling g mk a) (Vm.Alike.refl U.vm) qK, qD, SS.same (u := U) (U := U.calling g mk a) rfl qS⟩), fun U hU hW => ⟨rfl, by rw [hU], by rw [hU]; exact hPc, va_K.moved hW.alike cx.2.2.2.2.2.2.2.1, hDc, by rw [hU]; exact (((cx.2.2.2.2.2.2.2.2.2.2.2).kept hS.2.1).narrow hFc).warm hW⟩⟩ rfl rfl hl.1 rfl (by show 2 * 0 + _ ≤ 8; omega) hd ⟨cx.2.2.2.2.2.2.2.2.2.1, cx.2.2.2.2.2.2.2.2.2.2.1⟩) hS (fun q _ h => hFc q h) hFc (fun r_ u t H1 locs1 ht hvm hw hB hz1 hk1 hS1 => ?_)
  · obtain ⟨rfl, rfl⟩ := hw
    obtain ⟨hP1, -, -⟩ := hB
    rw [ht] at hP1
    obtain ⟨hP2, hD2⟩ := hback H1 hk1 hP1
    exact kk H1 locs1 ls hP2 hD2 hS1 hl
theorem r_Sd (cx : Cx p R s m args meth c D K A own cc nL ret cells slots) {y : MethodName} {b : ByteArray} {maxL : Nat} {rt : Option FieldType} {rm : Room} {wc0 wc w1 : va_W} {r : UInt64} {ix : Nat} (As : List Value) (rest : List Value) {ms : List (Option Nat)} {nn : Nat} (hM : MD l y b maxL rt rm D K As wc0 r w1) (hw0 : wc0 = wc) (hy : YS y b maxL rt As.length) (hlk : Cond.methodLink own ix y ∈ WALL) (hrm : rm.cells = 0 ∧ rm.slots = 0) (hR : rm.frames + 1 ≤ R.frames ∧ 8 + (maxL + 11) + rm.locals ≤ R.locals)
    (hfr : Fr wc w1 ws ws' ms) (hnn : wc.length = nn) (hcov : cov ms nn = true) (hst : st = As.reverse ++ rest) (hcat : (rest.map fun v => v.category).sum ≤ 8) (hd : decode cc pc = .ok (.invokestatic ix, 3)) (kk : WW p l e R s m args below meth c D A nL cells slots Q ws' loc (.double r :: rest) (pc + 3)) : WW p l e R s m args below meth c D A nL cells slots Q ws loc st pc := by
  subst hst hw0
  intro H locs ls hP hD hS hl
  obtain ⟨hPc, hDc, hFc0, hback⟩ := fr_PD hfr hnn hcov hP hD
  have hFc := hFc0 (fun q h => cx.2.2.2.2.2.2.2.2.1 q (Nat.le_trans hS.1 h))
  refine va_calld (va_runS (As := As) (rest := rest) ⟨cx.1, cx.2.1, cx.2.2.1, cx.2.2.2.1, cx.2.2.2.2.1⟩ (hM H.size) (⟨callB_of As.length cx.2.2.2.2.1 (wall_in hy.2.1) rfl hrm.1 hrm.2 (cx.2.2.2.2.1 _ hy.2.2.1) (cx.2.2.2.2.1 _ hlk) hy.1 hR, cx.2.2.2.2.1 _ hy.2.2.2⟩) ⟨(fun a U g mk q => by obtain ⟨q0, q1, qP, qK, qD, qS⟩ := q; exact ⟨q0, q1, qP, va_K.moved (u := U) (U := U.calling g mk a) (Vm.Alike.refl U.vm) qK, qD, SS.same (u := U) (U := U.calling g mk a) rfl qS⟩), fun U hU hW => ⟨rfl, by rw [hU], by rw [hU]; exact hPc, va_K.moved hW.alike cx.2.2.2.2.2.2.2.1, hDc, by rw [hU]; exact (((cx.2.2.2.2.2.2.2.2.2.2.2).kept hS.2.1).narrow hFc).warm hW⟩⟩ rfl rfl hl.1 rfl (by show 2 * 0 + _ ≤ 8; omega) hd ⟨cx.2.2.2.2.2.2.2.2.2.1, cx.2.2.2.2.2.2.2.2.2.2.1⟩) hS (fun q _ h => hFc q h) hFc (fun r_ u t H1 locs1 ht hvm hw hB hz1 hk1 hS1 => ?_)
  · obtain ⟨rfl, rfl⟩ := hw
    obtain ⟨hP1, -, -⟩ := hB
    rw [ht] at hP1
    obtain ⟨hP2, hD2⟩ := hback H1 hk1 hP1
    exact kk H1 locs1 ls hP2 hD2 hS1 hl
theorem r_Sr (cx : Cx p R s m args meth c D K A own cc nL ret cells slots) {y : MethodName} {b : ByteArray} {maxL : Nat} {rt : Option FieldType} {rm : Room} {wc0 wc w1 : va_W} {r : Nat} {ix : Nat} (As : List Value) (rest : List Value) {ms : List (Option Nat)} {nn : Nat} (hM : MR l y b maxL rt rm D K As wc0 r w1) (hw0 : wc0 = wc) (hy : YS y b maxL rt As.length) (hlk : Cond.methodLink own ix y ∈ WALL) (hrm : rm.cells = 0 ∧ rm.slots = 0) (hR : rm.frames + 1 ≤ R.frames ∧ 8 + (maxL + 11) + rm.locals ≤ R.locals)
    (hfr : Fr wc w1 ws ws' ms) (hnn : wc.length = nn) (hcov : cov ms nn = true) (hst : st = As.reverse ++ rest) (hcat : (rest.map fun v => v.category).sum ≤ 8) (hd : decode cc pc = .ok (.invokestatic ix, 3)) (kk : WW p l e R s m args below meth c D A nL cells slots Q ws' loc (.ref r :: rest) (pc + 3)) : WW p l e R s m args below meth c D A nL cells slots Q ws loc st pc := by
  subst hst hw0
  intro H locs ls hP hD hS hl
  obtain ⟨hPc, hDc, hFc0, hback⟩ := fr_PD hfr hnn hcov hP hD
  have hFc := hFc0 (fun q h => cx.2.2.2.2.2.2.2.2.1 q (Nat.le_trans hS.1 h))
  refine va_callr (va_runS (As := As) (rest := rest) ⟨cx.1, cx.2.1, cx.2.2.1, cx.2.2.2.1, cx.2.2.2.2.1⟩ (hM H.size) (⟨callB_of As.length cx.2.2.2.2.1 (wall_in hy.2.1) rfl hrm.1 hrm.2 (cx.2.2.2.2.1 _ hy.2.2.1) (cx.2.2.2.2.1 _ hlk) hy.1 hR, cx.2.2.2.2.1 _ hy.2.2.2⟩) ⟨(fun a U g mk q => by obtain ⟨q0, q1, qP, qK, qD, qS⟩ := q; exact ⟨q0, q1, qP, va_K.moved (u := U) (U := U.calling g mk a) (Vm.Alike.refl U.vm) qK, qD, SS.same (u := U) (U := U.calling g mk a) rfl qS⟩), fun U hU hW => ⟨rfl, by rw [hU], by rw [hU]; exact hPc, va_K.moved hW.alike cx.2.2.2.2.2.2.2.1, hDc, by rw [hU]; exact (((cx.2.2.2.2.2.2.2.2.2.2.2).kept hS.2.1).narrow hFc).warm hW⟩⟩ rfl rfl hl.1 rfl (by show 2 * 0 + _ ≤ 8; omega) hd ⟨cx.2.2.2.2.2.2.2.2.2.1, cx.2.2.2.2.2.2.2.2.2.2.1⟩) hS (fun q _ h => hFc q h) hFc (fun u ra_ t H1 locs1 ht hvm hw hB hz1 hk1 hS1 => ?_)
  · obtain rfl := hw
    obtain ⟨rfl, hP1, -, -⟩ := hB
    rw [ht] at hP1
    obtain ⟨hP2, hD2⟩ := hback H1 hk1 hP1
    exact kk H1 locs1 ls hP2 hD2 hS1 hl
end MYROWS
