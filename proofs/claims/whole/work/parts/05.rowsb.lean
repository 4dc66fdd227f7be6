/-! Math.floorMod(II): a class that the free law doesn't take, so its contract is loose, of a method without a row of natives -/
theorem fm_noRow0 : (NativeRow.find? natives yJ9_floorMod_7cf53.cls yJ9_floorMod_7cf53.name yJ9_floorMod_7cf53.desc).isNone = true := by decide +kernel
theorem fm_noRow (p : Program) : NativeRow.find? p.tables.natives yJ9_floorMod_7cf53.cls yJ9_floorMod_7cf53.name yJ9_floorMod_7cf53.desc = none := by
  cases p <;> exact Option.isNone_iff_eq_none.mp fm_noRow0
def fm_spec (a m0 : Int32) : Spec where
  pre := .and (.code yJ9_floorMod_7cf53 cJ9_floorMod_7cf53 3 (some .int)) (.and (.count 2) (.and (.isInt (.arg 0)) (.and (.isInt (.arg 1)) (.and (.eq (.arg 0) (.int a)) (.eq (.arg 1) (.int m0))))))
  post := .and .returned (.eq .result (.int (fm_v a m0)))
  changes := some []
set_option maxHeartbeats 4000000 in
theorem fm_meets (l : Launch) (a b : Int32) (hm : ¬ b = 0) : MeetsLoose l yJ9_floorMod_7cf53 (fm_spec a b) := by
  refine MeetsLoose.of_body_ov (code := cJ9_floorMod_7cf53) (maxLocals := 3) (ret := some .int) fm_noRow ?_ ?_
  · intro args s h
    simp only [fm_spec, Cond.before_and, Bool.and_eq_true] at h
    exact h.1
  · intro p e s m args below meth c s₁ B
    have hpre := B.pre
    simp only [fm_spec, Cond.before_and, Bool.and_eq_true] at hpre
    obtain ⟨a', b', rfl⟩ := Cond.two_ints hpre.2.1 hpre.2.2.1 hpre.2.2.2.1
    obtain rfl : a' = a := by
      have h := hpre.2.2.2.2.1
      simpa [Cond.before, Cond.holds, Cond.value, Term.eval] using h
    obtain rfl : b' = b := by
      have h := hpre.2.2.2.2.2
      simpa [Cond.before, Cond.holds, Cond.value, Term.eval] using h
    have hloc : argsToLocals #[.int a', .int b'] 3 = #[.val (.int a'), .val (.int b'), .unset] := rfl
    have fin : ∀ r : Int32, r = fm_v a' b' → (∀ fs, Steps p.tables e below (s₁.setTop (entryFrame m #[.int a', .int b'] 3)) (s₁.setFrames fs) ∨ handOver s₁ (some (.int r)) below ≠ some fs) →
        ∃ s₂ o, Steps p.tables e below (s₁.setTop (entryFrame m #[.int a', .int b'] 3)) s₂ ∧ s₂.status = .running ∧ Ended s₂ below o ∧
          (fm_spec a' b').ensures #[.int a', .int b'] s o s₂ := by
      intro r hr hwalk
      obtain ⟨fs, hfs⟩ := handOver_isSome (s := s₁) (some (.int r)) B.hears₁
      refine ⟨s₁.setFrames fs, .returned (some (.int r)), (hwalk fs).resolve_right (fun h => h hfs), B.here.running, B.ended hfs (by intro h; cases h), ?_, State.sameBut_nil.mpr ?_⟩
      · subst hr; simp [fm_spec, Cond.after, Cond.holds, Cond.value, Term.eval]
      · rw [State.frames_setFrames _ B.cur₁, B.back]
    have go : ∀ r : Int32, r = fm_v a' b' → ∀ fs, handOver s₁ (some (.int r)) below = some fs → Steps p.tables e below (s₁.setTop (entryFrame m #[.int a', .int b'] 3)) (s₁.setFrames fs) := by
      intro r hr fs hfs
      unfold entryFrame; rw [hloc]
      refine Steps.instrAtOv (c := _) (by simpa using B.here) ?_
      simp [jvm, wpRun, exec, B.here.top, B.exec, B.bytes, dJ9_floorMod_7cf53_0]
      refine Steps.instrAtOv (c := _) (by simpa using B.here) ?_
      simp [jvm, wpRun, exec, B.here.top, B.exec, B.bytes, dJ9_floorMod_7cf53_1]
      refine Steps.instrAtOv (c := _) (by simpa using B.here) ?_
      simp [jvm, wpRun, exec, B.here.top, B.exec, B.bytes, dJ9_floorMod_7cf53_2, hm]
      have e0 : fm_v a' b' = (if (a' ^^^ b') < 0 then (if a' - a' / b' * b' = 0 then a' - a' / b' * b' else a' - a' / b' * b' + b') else a' - a' / b' * b') := rfl
      rw [e0] at hr
      show Steps p.tables e below (s₁.setTop { method := m, pc := 3, locals := #[.val (.int a'), .val (.int b'), .unset], stack := [.int (a' - a' / b' * b')], locked := none }) _
      generalize a' - a' / b' * b' = z at hr ⊢
      refine Steps.instrAtOv (c := _) (by simpa using B.here) ?_
      simp [jvm, wpRun, exec, B.here.top, B.exec, B.bytes, dJ9_floorMod_7cf53_3, show storeLocals #[.val (.int a'), .val (.int b'), .unset] 2 (.int z) = some #[.val (.int a'), .val (.int b'), .val (.int z)] from rfl]
      show Steps p.tables e below (s₁.setTop { method := m, pc := 4, locals := #[.val (.int a'), .val (.int b'), .val (.int z)], stack := [], locked := none }) _
      refine Steps.instrAtOv (c := _) (by simpa using B.here) ?_
      simp [jvm, wpRun, exec, B.here.top, B.exec, B.bytes, dJ9_floorMod_7cf53_4]
      refine Steps.instrAtOv (c := _) (by simpa using B.here) ?_
      simp [jvm, wpRun, exec, B.here.top, B.exec, B.bytes, dJ9_floorMod_7cf53_5]
      refine Steps.instrAtOv (c := _) (by simpa using B.here) ?_
      simp [jvm, wpRun, exec, B.here.top, B.exec, B.bytes, dJ9_floorMod_7cf53_6]
      show Steps p.tables e below (s₁.setTop { method := m, pc := 7, locals := #[.val (.int a'), .val (.int b'), .val (.int z)], stack := [.int (a' ^^^ b')], locked := none }) _
      by_cases h1 : 0 ≤ a' ^^^ b'
      · have h1' : ¬ (a' ^^^ b') < 0 := Int32.not_lt.mpr h1
        rw [if_neg h1'] at hr
        subst hr
        refine Steps.instrAtOv (c := _) (by simpa using B.here) ?_
        simp [jvm, wpRun, exec, B.here.top, B.exec, B.bytes, dJ9_floorMod_7cf53_7, Op.ifCond.holds, h1]
        show Steps p.tables e below (s₁.setTop { method := m, pc := 18, locals := #[.val (.int a'), .val (.int b'), .val (.int r)], stack := [], locked := none }) _
        refine Steps.instrAtOv (c := _) (by simpa using B.here) ?_
        simp [jvm, wpRun, exec, B.here.top, B.exec, B.bytes, dJ9_floorMod_7cf53_18]
        refine Steps.instrAtOv (c := _) (by simpa using B.here) ?_
        simp [jvm, wpRun, exec, B.here.top, B.exec, B.bytes, dJ9_floorMod_7cf53_19, B.method₁, B.returns, narrow]
        intro acts
        rw [ret_to B.frames₁ B.method₁ B.notSynchronized rfl rfl hfs]
        exact Steps.refl _
      · have h1' : (a' ^^^ b') < 0 := Int32.not_le.mp h1
        rw [if_pos h1'] at hr
        refine Steps.instrAtOv (c := _) (by simpa using B.here) ?_
        simp [jvm, wpRun, exec, B.here.top, B.exec, B.bytes, dJ9_floorMod_7cf53_7, Op.ifCond.holds, h1]
        show Steps p.tables e below (s₁.setTop { method := m, pc := 10, locals := #[.val (.int a'), .val (.int b'), .val (.int z)], stack := [], locked := none }) _
        refine Steps.instrAtOv (c := _) (by simpa using B.here) ?_
        simp [jvm, wpRun, exec, B.here.top, B.exec, B.bytes, dJ9_floorMod_7cf53_10]
        by_cases h2 : z = 0
        · rw [if_pos h2] at hr
          subst hr
          subst h2
          refine Steps.instrAtOv (c := _) (by simpa using B.here) ?_
          simp [jvm, wpRun, exec, B.here.top, B.exec, B.bytes, dJ9_floorMod_7cf53_11, Op.ifCond.holds]
          show Steps p.tables e below (s₁.setTop { method := m, pc := 18, locals := #[.val (.int a'), .val (.int b'), .val (.int 0)], stack := [], locked := none }) _
          refine Steps.instrAtOv (c := _) (by simpa using B.here) ?_
          simp [jvm, wpRun, exec, B.here.top, B.exec, B.bytes, dJ9_floorMod_7cf53_18]
          refine Steps.instrAtOv (c := _) (by simpa using B.here) ?_
          simp [jvm, wpRun, exec, B.here.top, B.exec, B.bytes, dJ9_floorMod_7cf53_19, B.method₁, B.returns, narrow]
          intro acts
          rw [ret_to B.frames₁ B.method₁ B.notSynchronized rfl rfl hfs]
          exact Steps.refl _
        · rw [if_neg h2] at hr
          subst hr
          refine Steps.instrAtOv (c := _) (by simpa using B.here) ?_
          simp [jvm, wpRun, exec, B.here.top, B.exec, B.bytes, dJ9_floorMod_7cf53_11, Op.ifCond.holds, h2]
          show Steps p.tables e below (s₁.setTop { method := m, pc := 14, locals := #[.val (.int a'), .val (.int b'), .val (.int z)], stack := [], locked := none }) _
          refine Steps.instrAtOv (c := _) (by simpa using B.here) ?_
          simp [jvm, wpRun, exec, B.here.top, B.exec, B.bytes, dJ9_floorMod_7cf53_14]
          refine Steps.instrAtOv (c := _) (by simpa using B.here) ?_
          simp [jvm, wpRun, exec, B.here.top, B.exec, B.bytes, dJ9_floorMod_7cf53_15]
          refine Steps.instrAtOv (c := _) (by simpa using B.here) ?_
          simp [jvm, wpRun, exec, B.here.top, B.exec, B.bytes, dJ9_floorMod_7cf53_16]
          refine Steps.instrAtOv (c := _) (by simpa using B.here) ?_
          simp [jvm, wpRun, exec, B.here.top, B.exec, B.bytes, dJ9_floorMod_7cf53_17, B.method₁, B.returns, narrow]
          intro acts
          rw [ret_to B.frames₁ B.method₁ B.notSynchronized rfl rfl hfs]
          exact Steps.refl _
    refine fin _ rfl (fun fs => ?_)
    by_cases hfs : handOver s₁ (some (.int (fm_v a' b'))) below = some fs
    · exact Or.inl (go _ rfl fs hfs)
    · exact Or.inr hfs
section FMROW
variable {p : Program} {l : Launch} {e : Env} {R : Room} {s : State} {m : MethodId} {args : Array Value} {below : List Frame} {meth : Method} {c : Code} {D : va_G} {K : Nat → ClassId} {A : Nat → Prop} {own : String} {cc : ByteArray} {nL pc : Nat} {ret : Option FieldType} {cells slots : Nat} {Q : State → Prop} {ws ws' : va_W} {loc loc' : List (Nat × Value)} {st : List Value}
theorem fm_call {T : State} {locs : List Loc} (X : Stand p l e R s m args below meth c T locs cells slots) (hexec : p.tables.exec = Jvm.exec) {index : Nat} (hown : s.vm.findClass own = some m.cls)
    (hlink : (Cond.methodLink own index yJ9_floorMod_7cf53).before args s = true) (hstat : (Cond.static yJ9_floorMod_7cf53).before args s = true) (hinit : (Cond.initialized yJ9_floorMod_7cf53.cls).before args s = true)
    (hcode : (Cond.code yJ9_floorMod_7cf53 cJ9_floorMod_7cf53 3 (some .int)).before args s = true)
    {g : JFrame} (hg : g.method = m) (hsize : g.locals.size = c.maxLocals) {a b : Int32} (hb0 : ¬ b = 0) {rest : List Value} (hstack : g.stack = .int b :: .int a :: rest) (hdg : decode c.code g.pc = .ok (.invokestatic index, 3))
    (hframes : 1 ≤ R.frames) (hlocals : 2 * g.monitorRoom + (rest.map fun v => v.category).sum + 14 ≤ R.locals) (hcells : cells ≤ R.cells) (hslots : slots ≤ R.slots) :
    ∃ vm', Stand p l e R s m args below meth c (T.setVm vm') locs cells slots ∧
      ∀ target, Steps p.tables e below ((T.setVm vm').setTop { g with pc := g.pc + 3, stack := .int (fm_v a b) :: rest }) target → Steps p.tables e below (T.setTop g) target := by
  obtain ⟨v, T', X', ⟨first, t, hpost⟩, hstep⟩ := X.staticByContractV hexec hown hlink hstat hinit hcode (by decide)
    (fm_meets l a b hb0)
    rfl rfl rfl rfl
    (fun args' first o s₂ h => by
      simp only [fm_spec, Cond.after_and, Bool.and_eq_true] at h
      cases o with
      | returned r => exact ⟨r, rfl⟩
      | threw y => simp [Cond.after, Cond.holds, Cond.value] at h)
    hg hsize (argsL := [.int a, .int b]) (rest := rest)
    (fun sig hs => by
      have h : parseMethodDescriptor "(II)I" = some { parameters := [.int, .int], returnType := some .int } := by decide +kernel
      rw [show yJ9_floorMod_7cf53.desc = "(II)I" from rfl, h] at hs
      rw [← Option.some.inj hs]; rfl)
    hstack hdg
    (fun vm' hW => by
      simp only [fm_spec, Cond.before_and, Bool.and_eq_true]
      refine ⟨?_, rfl, rfl, rfl, by simp [Cond.before, Cond.holds, Cond.value, Term.eval], by simp [Cond.before, Cond.holds, Cond.value, Term.eval]⟩
      have q := hcode
      rw [← Cond.code_setVm hW.alike] at q
      simp only [Cond.before, Cond.holds, Cond.value, State.methodNamed?, State.vm_setVm] at q ⊢
      exact q)
    (by show 0 + 1 ≤ R.frames; omega) (by show 2 * g.monitorRoom + (rest.map fun v => v.category).sum + (3 + 11) + 0 ≤ R.locals; omega) (by show cells + 0 ≤ R.cells; omega) (by show slots + 0 ≤ R.slots; omega)
  refine ⟨T', X', fun target h => hstep target ?_⟩
  obtain rfl : v = some (.int (fm_v a b)) := by
    rcases v with _ | w
    · simp [fm_spec, Cond.after, Cond.holds, Cond.value, Term.eval] at hpost
    · cases w <;> simp [fm_spec, Cond.after, Cond.holds, Cond.value, Term.eval] at hpost
      rename_i r
      rw [hpost]
  exact h
theorem r_fmod (cx : Cx p R s m args meth c D K A own cc nL ret cells slots) {x y : Int32} {ix : Nat} (hne : ¬ y = 0) (hw : Cond.methodLink own ix yJ9_floorMod_7cf53 ∈ WALL) (hy : YS yJ9_floorMod_7cf53 cJ9_floorMod_7cf53 3 (some .int) 2) (hfr : 1 ≤ R.frames) (hlo : (st.map fun v => v.category).sum + 14 ≤ R.locals) (hd : decode cc pc = .ok (.invokestatic ix, 3)) (k : WW p l e R s m args below meth c D A nL cells slots Q ws loc (.int (fm_v x y) :: st) (pc + 3)) : WW p l e R s m args below meth c D A nL cells slots Q ws loc (.int y :: .int x :: st) pc := fun H locs ls hP hD hS hl => by
  intro T hT X
  obtain ⟨vm', X', stp⟩ := fm_call X cx.1 cx.2.2.2.1 (cx.2.2.2.2.1 _ hw) (cx.2.2.2.2.1 _ hy.2.2.2) (cx.2.2.2.2.1 _ hy.2.2.1) (cx.2.2.2.2.1 _ hy.2.1) (g := F0 m pc ls (.int y :: .int x :: st)) rfl (by rw [cx.2.2.1]; exact hl.1) hne (rest := st) rfl (by rw [cx.2.1]; exact hd) hfr (by show 2 * 0 + _ + 14 ≤ _; omega) cx.2.2.2.2.2.2.2.2.2.1 cx.2.2.2.2.2.2.2.2.2.2.1
  obtain ⟨t, a1, b1⟩ := k H locs ls hP hD hS hl (T.setVm vm') hT X'
  exact ⟨t, stp t a1, b1⟩
theorem r_mmax (cx : Cx p R s m args meth c D K A own cc nL ret cells slots) {x y : Int32} {ix : Nat} (hw : Cond.methodLink own ix yJ9_max_7cf53 ∈ WALL) (hy : YS yJ9_max_7cf53 cJ9_max_7cf53 2 (some .int) 2) (hfr : 1 ≤ R.frames) (hlo : (st.map fun v => v.category).sum + 13 ≤ R.locals) (hd : decode cc pc = .ok (.invokestatic ix, 3)) (k : WW p l e R s m args below meth c D A nL cells slots Q ws loc (.int (if x < y then y else x) :: st) (pc + 3)) : WW p l e R s m args below meth c D A nL cells slots Q ws loc (.int y :: .int x :: st) pc := fun H locs ls hP hD hS hl =>
  va_mmax cx.1 cx.2.1 (by rw [cx.2.2.1]; exact hl.1.symm) cx.2.2.2.1 (cx.2.2.2.2.1 _ hw) (cx.2.2.2.2.1 _ hy.2.2.2) (cx.2.2.2.2.1 _ hy.2.2.1) (cx.2.2.2.2.1 _ hy.2.1) hfr hlo cx.2.2.2.2.2.2.2.2.2.1 cx.2.2.2.2.2.2.2.2.2.2.1 hd (k H locs ls hP hD hS hl)
theorem r_mmin (cx : Cx p R s m args meth c D K A own cc nL ret cells slots) {x y : Int32} {ix : Nat} (hw : Cond.methodLink own ix yJ9_min_7cf53 ∈ WALL) (hy : YS yJ9_min_7cf53 cJ9_min_7cf53 2 (some .int) 2) (hfr : 1 ≤ R.frames) (hlo : (st.map fun v => v.category).sum + 13 ≤ R.locals) (hd : decode cc pc = .ok (.invokestatic ix, 3)) (k : WW p l e R s m args below meth c D A nL cells slots Q ws loc (.int (if y < x then y else x) :: st) (pc + 3)) : WW p l e R s m args below meth c D A nL cells slots Q ws loc (.int y :: .int x :: st) pc := fun H locs ls hP hD hS hl =>
  va_mmin cx.1 cx.2.1 (by rw [cx.2.2.1]; exact hl.1.symm) cx.2.2.2.1 (cx.2.2.2.2.1 _ hw) (cx.2.2.2.2.1 _ hy.2.2.2) (cx.2.2.2.2.1 _ hy.2.2.1) (cx.2.2.2.2.1 _ hy.2.1) hfr hlo cx.2.2.2.2.2.2.2.2.2.1 cx.2.2.2.2.2.2.2.2.2.2.1 hd (k H locs ls hP hD hS hl)
theorem r_mminL (cx : Cx p R s m args meth c D K A own cc nL ret cells slots) {x y : Int64} {ix : Nat} (hw : Cond.methodLink own ix yJ9_min_f86c9 ∈ WALL) (hy : YS yJ9_min_f86c9 cJ9_min_f86c9 4 (some .long) 2) (hfr : 1 ≤ R.frames) (hlo : (st.map fun v => v.category).sum + 15 ≤ R.locals) (hd : decode cc pc = .ok (.invokestatic ix, 3)) (k : WW p l e R s m args below meth c D A nL cells slots Q ws loc (.long (if y < x then y else x) :: st) (pc + 3)) : WW p l e R s m args below meth c D A nL cells slots Q ws loc (.long y :: .long x :: st) pc := fun H locs ls hP hD hS hl =>
  va_mmin_long cx.1 cx.2.1 (by rw [cx.2.2.1]; exact hl.1.symm) cx.2.2.2.1 (cx.2.2.2.2.1 _ hw) (cx.2.2.2.2.1 _ hy.2.2.2) (cx.2.2.2.2.1 _ hy.2.2.1) (cx.2.2.2.2.1 _ hy.2.1) hfr hlo cx.2.2.2.2.2.2.2.2.2.1 cx.2.2.2.2.2.2.2.2.2.2.1 hd (k H locs ls hP hD hS hl)
theorem r_mabsL (cx : Cx p R s m args meth c D K A own cc nL ret cells slots) {x : Int64} {ix : Nat} (hw : Cond.methodLink own ix yJ9_abs_067f4 ∈ WALL) (hy : YS yJ9_abs_067f4 cJ9_abs_067f4 2 (some .long) 1) (hfr : 1 ≤ R.frames) (hlo : (st.map fun v => v.category).sum + 13 ≤ R.locals) (hd : decode cc pc = .ok (.invokestatic ix, 3)) (k : WW p l e R s m args below meth c D A nL cells slots Q ws loc (.long (if 0 < x then x else -x) :: st) (pc + 3)) : WW p l e R s m args below meth c D A nL cells slots Q ws loc (.long x :: st) pc := fun H locs ls hP hD hS hl =>
  va_mabs_long cx.1 cx.2.1 (by rw [cx.2.2.1]; exact hl.1.symm) cx.2.2.2.1 (cx.2.2.2.2.1 _ hw) (cx.2.2.2.2.1 _ hy.2.2.2) (cx.2.2.2.2.1 _ hy.2.2.1) (cx.2.2.2.2.1 _ hy.2.1) hfr hlo cx.2.2.2.2.2.2.2.2.2.1 cx.2.2.2.2.2.2.2.2.2.2.1 hd (k H locs ls hP hD hS hl)
end FMROW
