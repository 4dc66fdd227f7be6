/-! calls in a world of blocks; the law's script -/
theorem va_P_mem {D : va_G} {cl : List vw_C} {ws ws2 : va_W} {H : Heap} (h : ∀ q, q ∈ ws2 → q ∈ ws) (hP : va_P D cl ws H) : va_P D cl ws2 H := fun k q hq => by
  obtain ⟨j, hj⟩ := List.getElem?_of_mem (h q (List.mem_of_getElem? hq))
  exact hP j q hj
theorem va_D_iff {A : Nat → Prop} {ws : va_W} : va_D A ws ↔ (ws.map (·.1)).Nodup ∧ ∀ q ∈ ws, A q.1 := by
  constructor
  · rintro ⟨h1, h2⟩
    refine ⟨List.pairwise_iff_getElem.mpr ?_, fun q hq => ?_⟩
    · intro i j hi' hj' hij he
      have hi : i < ws.length := by rw [List.length_map] at hi'; exact hi'
      have hj : j < ws.length := by rw [List.length_map] at hj'; exact hj'
      rw [List.getElem_map, List.getElem_map] at he
      have := h1 i j _ _ (List.getElem?_eq_getElem hi) (List.getElem?_eq_getElem hj) he
      omega
    · obtain ⟨j, hj⟩ := List.getElem?_of_mem hq
      exact h2 j q hj
  · rintro ⟨h1, h2⟩
    refine ⟨fun i j x y hx hy hxy => ?_, fun k q hq => h2 q (List.mem_of_getElem? hq)⟩
    have h3 := List.pairwise_iff_getElem.mp h1
    have key : ∀ i j : Nat, ∀ x y : Nat × va_E, ws[i]? = some x → ws[j]? = some y → x.1 = y.1 → i < j → False := by
      intro i j x y hx hy hxy hij
      obtain ⟨hi, ex⟩ := List.getElem?_eq_some_iff.mp hx
      obtain ⟨hj, ey⟩ := List.getElem?_eq_some_iff.mp hy
      refine h3 i j (by rw [List.length_map]; exact hi) (by rw [List.length_map]; exact hj) hij ?_
      rw [List.getElem_map, List.getElem_map, ex, ey]
      exact hxy
    rcases Nat.lt_trichotomy i j with h | h | h
    · exact (key i j x y hx hy hxy h).elim
    · exact h
    · exact (key j i y x hy hx hxy.symm h).elim
theorem va_D_perm {A : Nat → Prop} {ws ws2 : va_W} (h : ws.Perm ws2) (hD : va_D A ws) : va_D A ws2 := by
  rw [va_D_iff] at hD ⊢
  exact ⟨(h.map (·.1)).nodup_iff.mp hD.1, fun q hq => hD.2 q (h.mem_iff.mpr hq)⟩
def mkp (n k : Nat) : List (Option Nat) := (List.range n).map some ++ List.replicate k none
theorem fr_nones (W W1 : va_W) : ∀ wr : va_W, Fr W W1 wr wr (List.replicate wr.length none)
  | [] => trivial
  | _ :: wr => ⟨rfl, fr_nones W W1 wr⟩
theorem fr_somes (W W1 wr : va_W) : ∀ (X X1 : va_W) (j : Nat), (∀ i : Nat, i < X.length → W[j + i]? = X[i]?) → (∀ i : Nat, i < X1.length → W1[j + i]? = X1[i]?) → X1.map (·.1) = X.map (·.1) → Fr W W1 (X ++ wr) (X1 ++ wr) ((List.range' j X.length).map some ++ List.replicate wr.length none)
  | [], [], _, _, _, _ => fr_nones W W1 wr
  | [], _ :: _, _, _, _, h => by simp at h
  | _ :: _, [], _, _, _, h => by simp at h
  | a :: X, b :: X1, j, h1, h2, h3 => by
    have e : b.1 = a.1 ∧ X1.map (·.1) = X.map (·.1) := by simpa using h3
    refine ⟨⟨by simpa using h1 0 (by simp), by simpa using h2 0 (by simp), e.1⟩, fr_somes W W1 wr X X1 (j + 1) (fun i hi => ?_) (fun i hi => ?_) e.2⟩
    · have := h1 (i + 1) (by simp; omega)
      rw [show j + 1 + i = j + (i + 1) by omega, this]; rfl
    · have := h2 (i + 1) (by simp; omega)
      rw [show j + 1 + i = j + (i + 1) by omega, this]; rfl
theorem fr_pre {wc w1 : va_W} (wr : va_W) (h : w1.map (·.1) = wc.map (·.1)) : Fr wc w1 (wc ++ wr) (w1 ++ wr) (mkp wc.length wr.length) := by
  unfold mkp
  rw [List.range_eq_range']
  exact fr_somes wc w1 wr wc w1 0 (fun i _ => by rw [Nat.zero_add]) (fun i _ => by rw [Nat.zero_add]) h
theorem cov_pre (n k : Nat) : cov (mkp n k) n = true := by
  unfold cov mkp
  refine List.all_eq_true.mpr fun j hj => ?_
  rw [List.contains_iff_mem]
  exact List.mem_append_left _ (List.mem_map_of_mem hj)
/-- a world by its blocks -/
def fl (F : Nat → va_W) (is : List Nat) : va_W := (is.map F).flatten
theorem fl_perm (F : Nat → va_W) {is js : List Nat} (h : is.Perm js) : (fl F is).Perm (fl F js) := (h.map F).flatten
theorem fl_app (F : Nat → va_W) (is js : List Nat) : fl F (is ++ js) = fl F is ++ fl F js := by unfold fl; rw [List.map_append, List.flatten_append]
theorem fl_congr {F G : Nat → va_W} {is : List Nat} (h : ∀ i ∈ is, F i = G i) : fl F is = fl G is := by
  unfold fl
  rw [List.map_congr_left h]
section MYBLK
variable {p : Program} {l : Launch} {e : Env} {R : Room} {s : State} {m : MethodId} {args : Array Value} {below : List Frame} {meth : Method} {c : Code} {D : va_G} {K : Nat → ClassId} {A : Nat → Prop} {own : String} {cc : ByteArray} {nL : Nat} {ret : Option FieldType} {cells slots : Nat} {Q : State → Prop} {ws ws2 : va_W} {loc : List (Nat × Value)} {st : List Value} {pc : Nat}
theorem r_perm (h : ws.Perm ws2) (k : WW p l e R s m args below meth c D A nL cells slots Q ws2 loc st pc) : WW p l e R s m args below meth c D A nL cells slots Q ws loc st pc := fun H locs ls hP hD hS hl =>
  k H locs ls (va_P_mem (fun q hq => h.mem_iff.mpr hq) hP) (va_D_perm h hD) hS hl
theorem r_up {c' s' : Nat} (h1 : cells ≤ c') (h2 : slots ≤ s') (k : WW p l e R s m args below meth c D A nL c' s' Q ws loc st pc) : WW p l e R s m args below meth c D A nL cells slots Q ws loc st pc := fun H locs ls hP hD hS hl => W.widen h1 h2 (k H locs ls hP hD hS hl)
/-- a call whose cells are some blocks -/
theorem r_blk (cx : Cx p R s m args meth c D K A own cc nL ret cells slots) {y : MethodName} {b : ByteArray} {maxL : Nat} {rt : Option FieldType} {rm : Room} {wc w1 : va_W} {r : Int32} {b0 : Nat} {ix : Nat} {F F' : Nat → va_W} {is : List Nat} (js ks : List Nat) (As : List Value) (rest : List Value) (hM : MI l y b maxL rt rm D K (.ref b0 :: As) wc r w1)
    (hp : is.Perm (js ++ ks)) (hwc : fl F js = wc) (hw1 : fl F' js = w1) (hk : ks.map F = ks.map F') (ha : w1.map (·.1) = wc.map (·.1)) (hy : YV y b maxL rt As.length) (hlk : Cond.methodLink own ix y ∈ WALL) (hrm : rm.cells = 0 ∧ rm.slots = 0) (hR : rm.frames + 1 ≤ R.frames ∧ 8 + (maxL + 11) + rm.locals ≤ R.locals)
    {ci : Nat} {fs : List Value} {T : u_T} {N : Nat} (he : wc[0]? = some (b0, .inr (ci, fs))) (hcl : vwCl[ci]? = some (y.cls, T, N)) (hst : st = As.reverse ++ .ref b0 :: rest) (hcat : (rest.map fun v => v.category).sum ≤ 8) (hd : decode cc pc = .ok (.invokevirtual ix, 3))
    (kk : WW p l e R s m args below meth c D A nL cells slots Q (fl F' is) loc (.int r :: rest) (pc + 3)) : WW p l e R s m args below meth c D A nL cells slots Q (fl F is) loc st pc := by
  have e1 : fl F (js ++ ks) = wc ++ fl F ks := by rw [fl_app, hwc]
  have e2 : fl F' (js ++ ks) = w1 ++ fl F ks := by rw [fl_app, hw1]; unfold fl; rw [hk]
  refine r_perm (fl_perm F hp) ?_
  rw [e1]
  refine r_Vi cx As rest hM rfl hy hlk hrm hR (fr_pre (fl F ks) ha) rfl (cov_pre _ _) 0 (by rw [List.getElem?_append_left (List.getElem?_eq_some_iff.mp he).1]; exact he) hcl hst hcat hd ?_
  rw [← e2]
  exact r_perm (fl_perm F' hp).symm kk
/-- the same, of a call that answers an object -/
theorem r_blkR (cx : Cx p R s m args meth c D K A own cc nL ret cells slots) {y : MethodName} {b : ByteArray} {maxL : Nat} {rt : Option FieldType} {rm : Room} {wc w1 : va_W} {r : Nat} {b0 : Nat} {ix : Nat} {F F' : Nat → va_W} {is : List Nat} (js ks : List Nat) (As : List Value) (rest : List Value) (hM : MR l y b maxL rt rm D K (.ref b0 :: As) wc r w1)
    (hp : is.Perm (js ++ ks)) (hwc : fl F js = wc) (hw1 : fl F' js = w1) (hk : ks.map F = ks.map F') (ha : w1.map (·.1) = wc.map (·.1)) (hy : YV y b maxL rt As.length) (hlk : Cond.methodLink own ix y ∈ WALL) (hrm : rm.cells = 0 ∧ rm.slots = 0) (hR : rm.frames + 1 ≤ R.frames ∧ 8 + (maxL + 11) + rm.locals ≤ R.locals)
    {ci : Nat} {fs : List Value} {T : u_T} {N : Nat} (he : wc[0]? = some (b0, .inr (ci, fs))) (hcl : vwCl[ci]? = some (y.cls, T, N)) (hst : st = As.reverse ++ .ref b0 :: rest) (hcat : (rest.map fun v => v.category).sum ≤ 8) (hd : decode cc pc = .ok (.invokevirtual ix, 3))
    (kk : WW p l e R s m args below meth c D A nL cells slots Q (fl F' is) loc (.ref r :: rest) (pc + 3)) : WW p l e R s m args below meth c D A nL cells slots Q (fl F is) loc st pc := by
  have e1 : fl F (js ++ ks) = wc ++ fl F ks := by rw [fl_app, hwc]
  have e2 : fl F' (js ++ ks) = w1 ++ fl F ks := by rw [fl_app, hw1]; unfold fl; rw [hk]
  refine r_perm (fl_perm F hp) ?_
  rw [e1]
  refine r_Vr cx As rest hM rfl hy hlk hrm hR (fr_pre (fl F ks) ha) rfl (cov_pre _ _) 0 (by rw [List.getElem?_append_left (List.getElem?_eq_some_iff.mp he).1]; exact he) hcl hst hcat hd ?_
  rw [← e2]
  exact r_perm (fl_perm F' hp).symm kk
/-- the script lies where it lay -/
theorem scr_at {b L : Nat} {xs : Nat → Int32} {H : Heap} {locs : List Loc} (hX : va_X b L xs s s.heap) (hb : b < s.heap.size) (hA : ∀ q, A q → s.heap.size ≤ q) (hS : va_S A s.heap H locs) : va_X b L xs s H := hX.kept (hS.2.1 b hb (fun h => Nat.not_lt.mpr (hA b h) hb))
theorem r_sald (cx : Cx p R s m args meth c D K A own cc nL ret cells slots) {b L : Nat} {xs : Nat → Int32} (hX : va_X b L xs s s.heap) (hb : b < s.heap.size) (hA : ∀ q, A q → s.heap.size ≤ q) {i : Int32} (hin : ix i L) (hd : decode cc pc = .ok (.iaload, 1)) (k : WW p l e R s m args below meth c D A nL cells slots Q ws loc (.int (xs i.toNatClampNeg) :: st) (pc + 1)) : WW p l e R s m args below meth c D A nL cells slots Q ws loc (.int i :: .ref b :: st) pc := by
  intro H locs ls hP hD hS hl
  obtain ⟨scr, h1, h2, h3, h4, h5⟩ := scr_at hX hb hA hS
  have hlt : i.toNatClampNeg < L := by
    unfold ix at hin
    omega
  exact W.iald cx.1 cx.2.1 h1 h2 h3 (by rw [h4]; exact hin) (h5 _ hlt) rfl rfl hd (k H locs ls hP hD hS hl)
theorem r_slen (cx : Cx p R s m args meth c D K A own cc nL ret cells slots) {b L : Nat} {xs : Nat → Int32} (hX : va_X b L xs s s.heap) (hb : b < s.heap.size) (hA : ∀ q, A q → s.heap.size ≤ q) {v : Int32} (hv : Int32.ofNat L = v) (hd : decode cc pc = .ok (.arraylength, 1)) (k : WW p l e R s m args below meth c D A nL cells slots Q ws loc (.int v :: st) (pc + 1)) : WW p l e R s m args below meth c D A nL cells slots Q ws loc (.ref b :: st) pc := by
  intro H locs ls hP hD hS hl
  obtain ⟨scr, h1, h2, h3, h4, h5⟩ := scr_at hX hb hA hS
  exact W.alen cx.1 cx.2.1 h1 h2 (by rw [h4]; exact hv) rfl rfl hd (k H locs ls hP hD hS hl)
end MYBLK
