/-! what the law finds at its entry -/
abbrev gvT : Cond := Cond.and given_1 narrow_1
def tmS : Nat → Term := fun i => match i with | 0 => .string "TwinThreads$Reader" 32 | 1 => .string "TwinThreads$Reader" 38 | 2 => .string "TwinThreads$Reader" 40 | _ => .string "TwinThreadsModel" 129
def psS : List Nat := [33, 100, 186, 314]
theorem gv_ex : ∀ i, i < 4 → (flatC gvT)[psS.getD i 0]? = some (.exactly (tmS i) "java/lang/String") := by decide +kernel
theorem gv_co : ∀ i, i < 4 → (flatC gvT)[psS.getD i 0 + 1]? = some (.eq (.field (tmS i) "java/lang/String" "coder" "B") (.int 0)) := by decide +kernel
theorem gv_ar : ∀ i, i < 4 → (flatC gvT)[psS.getD i 0 + 2]? = some (.arrayOf (.field (tmS i) "java/lang/String" "value" "[B") .byte) := by decide +kernel
theorem gv_le : ∀ i, i < 4 → (flatC gvT)[psS.getD i 0 + 3]? = some (.eq (.length (.field (tmS i) "java/lang/String" "value" "[B")) (.int (Int32.ofNat (lenS.getD i 0)))) := by decide +kernel
theorem gv_el : ∀ i, i < 4 → ∀ j, j < lenS.getD i 0 → (flatC gvT)[psS.getD i 0 + 4 + j]? = some (.eq (.elem (.field (tmS i) "java/lang/String" "value" "[B") (.int (Int32.ofNat j))) (.int ((bytS.getD i []).getD j 0))) := by decide +kernel
def neS : List (List Nat) := [[0, 185, 271, 443], [185, 0, 272, 444], [271, 272, 0, 445], [443, 444, 445, 0]]
theorem gv_ne : ∀ i, i < 4 → ∀ j, j < 4 → i < j → (flatC gvT)[(neS.getD i []).getD j 0]? = some (.not (.eq (tmS i) (tmS j))) := by decide +kernel
theorem gv_st : (flatC gvT)[4]? = some (.eq (.static "java/lang/String" "COMPACT_STRINGS" "Z") (.int 1)) ∧ (flatC gvT)[5]? = some (.isRef (.static "jdk/internal/util/Preconditions" "SIOOBE_FORMATTER" "Ljava/util/function/BiFunction;")) ∧ (flatC gvT)[9]? = some (.isRef (.static Bundle.tN "UNASSIGNED_STACK" Bundle.steD)) ∧ (flatC gvT)[10]? = some (.isRef (.static Bundle.tN "SUPPRESSED_SENTINEL" Bundle.listD)) ∧ (flatC gvT)[21]? = some (.not (.castable "java/util/NoSuchElementException" "java/lang/IndexOutOfBoundsException")) := by decide +kernel
theorem strRef_ev {own tx : String} {k : Nat} {args : Array Value} {s : State} (h : (Cond.stringRef own k tx).before args s = true) : ∃ a, (Term.string own k).eval args s none [] s = some (.ref a) := by
  simp only [Cond.before, Cond.holds, Cond.value] at h
  cases hr : s.resolvedAt? own k with
  | none => simp [hr] at h
  | some x =>
    cases x with
    | string a =>
      refine ⟨a, ?_⟩
      simp only [State.resolvedAt?] at hr
      simp only [Term.eval]
      cases hf : s.vm.findClass own with
      | none => simp [hf] at hr
      | some ci =>
        cases hk : s.vm.classes[ci]? with
        | none => simp [hf, hk] at hr
        | some kk => simp [hf, hk] at hr ⊢; rw [hr]; simp
    | _ => simp [hr] at h
theorem vk_S_at {N : Nat} {len : List Nat} {byt : List (List Int32)} {adK adV adK' adV' : Nat → Nat} {A : Nat → Prop} {U : State} {H : Heap} (h : vk_S N len byt adK adV A U H) (h1 : ∀ i, i < N → adK' i = adK i) (h2 : ∀ i, i < N → adV' i = adV i) : vk_S N len byt adK' adV' A U H :=
  ⟨fun i hi => by rw [h1 i hi, h2 i hi]; exact h.1 i hi, fun i j hi hj e => h.2 i j hi hj (by rw [← h1 i hi, ← h1 j hj]; exact e)⟩
/-- where the constants lie, and the classes of arrays -/
def KK (cI cB cZ cJ a94 a123 : Nat) (adK adV : Nat → Nat) : Nat → ClassId := fun n => if n = 0 then cI else if n = 1 then cB else if n = 2 then cZ else if n = 3 then cJ else if n = 30 then a94 else if n = 31 then a123 else if n < 20 then adK (n - 10) else adV (n - 20)
def tblL : List Cond := [.arrayClass .int, .arrayClass .byte, .arrayClass .boolean, .arrayClass .long, .laysStatic "java/lang/String" "COMPACT_STRINGS" "Z", .initialized "java/lang/String", .laysStatic "jdk/internal/util/Preconditions" "SIOOBE_FORMATTER" "Ljava/util/function/BiFunction;", .initialized "jdk/internal/util/Preconditions", .laysStatic Bundle.tN "UNASSIGNED_STACK" Bundle.steD, .laysStatic Bundle.tN "SUPPRESSED_SENTINEL" Bundle.listD, .initialized Bundle.tN,
  .instantiable RX0 4, .instantiable RX2 7, .instantiable RX3 10, .instantiable RX4 11, .instantiable RX5 13, .instantiable RX6 15, .instantiable RX7 6, .instantiable RX8 13, .instantiable RX9 8, .instantiable RX10 43] ++ (XBL ++ NWL)
def tblS : List Cond := [.stringRef "TwinThreads" 94 "no such thread", .stringRef "TwinThreads" 123 "no such what", .stringRef "TwinThreads$Reader" 32 (txS.getD 0 ""), .stringRef "TwinThreads$Reader" 38 (txS.getD 1 ""), .stringRef "TwinThreads$Reader" 40 (txS.getD 2 ""), .stringRef "TwinThreadsModel" 129 (txS.getD 3 "")]
theorem tbl_words : tblL.all (fun w => decide (w ∈ lw_tbl)) = true := by decide +kernel
theorem tbl_strs : tblS.all (fun w => decide (w ∈ lw_tbl)) = true := by decide +kernel
theorem arr_of {args : Array Value} {s : State} {ty : FieldType} (hno : ∀ C, ty ≠ .object C) (h : (Cond.arrayClass ty).before args s = true) : ∃ cA, ArrOfT s cA ty ∧ va_RA s cA ty := by
  obtain ⟨cA, kA, comp, h1, h2, h3⟩ := Cond.arrayClass_spec h
  refine ⟨cA, fun n z => ⟨fun k h => (by cases h), kA, h2, comp, h3⟩, ?_⟩
  cases ty with
  | object C => exact absurd rfl (hno C)
  | _ => exact h1
theorem kn_all {s : State} {args : Array Value} (hw : ∀ w ∈ WALL, w.before args s = true) (ht : ∀ w ∈ lw_tbl, w.before args s = true) : ∀ c : Nat, ∃ x : ClassId × (Nat → Nat), ∀ q : vw_C, vwCl[c]? = some q → u_Kn s q.1 q.2.1 q.2.2 x.1 x.2 := by
  have tw : ∀ w : Cond, w ∈ tblL → w.before args s = true := fun w h => ht w (of_decide_eq_true (List.all_eq_true.mp tbl_words w h))
  have one : ∀ {ci : Nat} {C : String} {T : u_T} {N : Nat} {ty : Nat → FieldType}, CF ci C T N ty → (Cond.instantiable C N).before args s = true → ∃ x : ClassId × (Nat → Nat), ∀ q : vw_C, vwCl[ci]? = some q → u_Kn s q.1 q.2.1 q.2.2 x.1 x.2 := by
    intro ci C T N ty cf hi
    obtain ⟨cC, iS, hk⟩ := u_known hw cf.2.1 hi
    refine ⟨(cC, iS), fun q hq => ?_⟩
    rw [cf.1] at hq
    obtain rfl := Option.some.inj hq
    exact hk
  intro c
  by_cases h : c < 10
  · rcases (show c = 0 ∨ c = 1 ∨ c = 2 ∨ c = 3 ∨ c = 4 ∨ c = 5 ∨ c = 6 ∨ c = 7 ∨ c = 8 ∨ c = 9 by omega) with rfl | rfl | rfl | rfl | rfl | rfl | rfl | rfl | rfl | rfl
    · exact one cf_X0 (tw _ (by simp [tblL]))
    · exact one cf_X2 (tw _ (by simp [tblL]))
    · exact one cf_X3 (tw _ (by simp [tblL]))
    · exact one cf_X4 (tw _ (by simp [tblL]))
    · exact one cf_X5 (tw _ (by simp [tblL]))
    · exact one cf_X6 (tw _ (by simp [tblL]))
    · exact one cf_X7 (tw _ (by simp [tblL]))
    · exact one cf_X8 (tw _ (by simp [tblL]))
    · exact one cf_X9 (tw _ (by simp [tblL]))
    · exact one cf_X10 (tw _ (by simp [tblL]))
  · refine ⟨(0, fun _ => 0), fun q hq => ?_⟩
    have := (List.getElem?_eq_some_iff.mp hq).1
    exact absurd this (by show ¬ c < 10; exact h)
theorem law_finds {s : State} {b : Nat} (hts : ∀ w ∈ lw_tbl, w.before #[Value.ref b] s = true) (hgv : gvT.before #[Value.ref b] s = true) {A : Nat → Prop} (hA : ∀ a : Nat, a < s.heap.size → ¬ A a) :
    ∃ (D : va_G) (K : Nat → ClassId), va_K D vwCl (TYS K) s ∧ SS K A s s.heap ∧ XX K A s s.heap ∧ NW s := by
  have hw : ∀ w ∈ WALL, w.before #[Value.ref b] s = true := fun w h => hts w (List.mem_filter.mp h).1
  have tw : ∀ w : Cond, w ∈ tblL → w.before #[Value.ref b] s = true := fun w h => hts w (of_decide_eq_true (List.all_eq_true.mp tbl_words w h))
  have tr : ∀ w : Cond, w ∈ tblS → w.before #[Value.ref b] s = true := fun w h => hts w (of_decide_eq_true (List.all_eq_true.mp tbl_strs w h))
  have gv : ∀ {i : Nat} {w : Cond}, (flatC gvT)[i]? = some w → w.before #[Value.ref b] s = true := fun h => flat_of_before gvT hgv _ (List.mem_of_getElem? h)
  obtain ⟨D1, hD1⟩ := Classical.axiomOfChoice (kn_all hw hts)
  obtain ⟨cI, i1, i2⟩ := arr_of (ty := .int) (fun _ h => by cases h) (tw _ (by simp [tblL]))
  obtain ⟨cB, b1, b2⟩ := arr_of (ty := .byte) (fun _ h => by cases h) (tw _ (by simp [tblL]))
  obtain ⟨cZ, z1, z2⟩ := arr_of (ty := .boolean) (fun _ h => by cases h) (tw _ (by simp [tblL]))
  obtain ⟨cJ, j1, j2⟩ := arr_of (ty := .long) (fun _ h => by cases h) (tw _ (by simp [tblL]))
  obtain ⟨a94, e94⟩ := strRef_ev (tr (.stringRef "TwinThreads" 94 "no such thread") (by simp [tblS, txS]))
  obtain ⟨a123, e123⟩ := strRef_ev (tr (.stringRef "TwinThreads" 123 "no such what") (by simp [tblS, txS]))
  obtain ⟨adK, adV, hS, hev⟩ := vk_Sof (args := #[Value.ref b]) (s := s) (N := 4) (tm := tmS) (len := lenS) (byt := bytS) (A := A) (by decide) (fun i hi => gv (gv_ex i hi)) (fun i hi => gv (gv_co i hi)) (fun i hi => gv (gv_ar i hi)) (fun i hi => gv (gv_le i hi)) (fun i hi j hj => gv (gv_el i hi j hj))
    (fun i j hi hj hij => by
      by_cases g : i < j
      · exact Or.inl (gv (gv_ne i hi j hj g))
      · exact Or.inr (gv (gv_ne j hj i hi (by omega)))) hA
  obtain ⟨y1, y2, y3, y4, y5⟩ := gv_st
  obtain ⟨v1, e1, e2⟩ := Cond.eq_one (show (Cond.eq (.static "java/lang/String" "COMPACT_STRINGS" "Z") (.int 1)).holds #[Value.ref b] s none s [] = true from gv y1)
  obtain ⟨v2, e3, e4⟩ := Cond.isRef_spec (show (Cond.isRef (.static "jdk/internal/util/Preconditions" "SIOOBE_FORMATTER" "Ljava/util/function/BiFunction;")).holds #[Value.ref b] s none s [] = true from gv y2)
  have hv1 : v1 = .int 1 := by simpa [Term.eval] using e2.symm
  subst hv1
  refine ⟨(fun c => (D1 c).1, fun c => (D1 c).2), KK cI cB cZ cJ a94 a123 adK adV, ⟨fun c q hq => hD1 c q hq, ?_⟩, ⟨vk_S_at hS ?_ ?_, va_Zof (tw _ (by simp [tblL])) (tw _ (by simp [tblL])) e1 hA, ⟨v2, ?_, va_Zof (tw _ (by simp [tblL])) (tw _ (by simp [tblL])) e3 hA⟩, ?_, ?_, ?_, ?_⟩, ⟨?_, ?_, ?_, ?_, ?_, ?_⟩, ?_⟩
  · intro k q hk
    match k, hk with
    | 0, hk => obtain rfl := Option.some.inj hk; exact ⟨i1, i2⟩
    | 1, hk => obtain rfl := Option.some.inj hk; exact ⟨b1, b2⟩
    | 2, hk => obtain rfl := Option.some.inj hk; exact ⟨z1, z2⟩
    | 3, hk => obtain rfl := Option.some.inj hk; exact ⟨j1, j2⟩
    | k + 4, hk => simp [TYS] at hk
  · intro i hi
    rcases (show i = 0 ∨ i = 1 ∨ i = 2 ∨ i = 3 by omega) with rfl | rfl | rfl | rfl <;> rfl
  · intro i hi
    rcases (show i = 0 ∨ i = 1 ∨ i = 2 ∨ i = 3 by omega) with rfl | rfl | rfl | rfl <;> rfl
  · cases v2 <;> simp [Value.isRef] at e4 ⊢
  · exact vk_R.of (tr _ (by simp [tblS, txS])) (hev 0 (by omega))
  · exact vk_R.of (tr _ (by simp [tblS, txS])) (hev 1 (by omega))
  · exact vk_R.of (tr _ (by simp [tblS, txS])) (hev 2 (by omega))
  · exact vk_R.of (tr _ (by simp [tblS, txS])) (hev 3 (by omega))
  · exact fun w h => va_Nw.of (xbl_onTables h) (tw w (List.mem_append_right _ (List.mem_append_left _ h)))
  · exact vk_R.of (tr _ (by simp [tblS, txS])) e94
  · exact vk_R.of (tr _ (by simp [tblS, txS])) e123
  · exact vx_Zqof (tw _ (by simp [tblL])) (tw _ (by simp [tblL])) (gv y3) hA
  · exact vx_Zqof (tw _ (by simp [tblL])) (tw _ (by simp [tblL])) (gv y4) hA
  · exact va_Nc.of (gv y5)
  · exact fun w h => va_Nw.of (nwl_onTables h) (tw w (List.mem_append_right _ (List.mem_append_right _ h)))
