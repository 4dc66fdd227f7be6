section STRROW
variable {p : Program} {l : Launch} {e : Env} {R : Room} {s : State} {m : MethodId} {args : Array Value} {below : List Frame} {meth : Method} {c : Code} {D : va_G} {K : Nat → ClassId} {A : Nat → Prop} {own : String} {cc : ByteArray} {nL pc : Nat} {ret : Option FieldType} {cells slots : Nat} {Q : State → Prop} {ws ws' : va_W} {loc loc' : List (Nat × Value)} {st : List Value}

theorem r_gets (cx : Cx p R s m args meth c D K A own cc nL ret cells slots) {C n d : String} {v : Value} {ix : Nat} (hZ : va_Z C n d v A s s.heap) (hw : Cond.fieldLink own ix C n d ∈ WALL) (hd : decode cc pc = .ok (.getstatic ix, 3)) (k : WW p l e R s m args below meth c D A nL cells slots Q ws loc (v :: st) (pc + 3)) : WW p l e R s m args below meth c D A nL cells slots Q ws loc st pc := fun H locs ls hP hD hS hl => va_gets cx.1 cx.2.1 hZ hS cx.2.2.2.1 (cx.2.2.2.2.1 _ hw) (fun _ h => h) hd (k H locs ls hP hD hS hl)
theorem r_getO (cx : Cx p R s m args meth c D K A own cc nL ret cells slots) {C n d : String} {v : Value} {ix a : Nat} (hO : va_OF C n d v a A s s.heap) (hw : Cond.fieldLink own ix C n d ∈ WALL) (hd : decode cc pc = .ok (.getfield ix, 3)) (k : WW p l e R s m args below meth c D A nL cells slots Q ws loc (v :: st) (pc + 3)) : WW p l e R s m args below meth c D A nL cells slots Q ws loc (.ref a :: st) pc := fun H locs ls hP hD hS hl => vk_getf cx.1 cx.2.1 hO hS cx.2.2.2.1 (cx.2.2.2.2.1 _ hw) (fun _ h => h) hd (k H locs ls hP hD hS hl)
theorem r_lenT (cx : Cx p R s m args meth c D K A own cc nL ret cells slots) {ty : FieldType} {t N : Nat} {f : Nat → Value} {v : Int32} (hT : va_T ty t N f A s s.heap) (hv : Int32.ofNat N = v) (hd : decode cc pc = .ok (.arraylength, 1)) (k : WW p l e R s m args below meth c D A nL cells slots Q ws loc (.int v :: st) (pc + 1)) : WW p l e R s m args below meth c D A nL cells slots Q ws loc (.ref t :: st) pc := fun H locs ls hP hD hS hl => va_tlen cx.1 cx.2.1 hT hS hv hd (k H locs ls hP hD hS hl)
theorem r_baldT (cx : Cx p R s m args meth c D K A own cc nL ret cells slots) {t N : Nat} {f : Nat → Value} {i : Int32} {v : Value} (hT : va_T .byte t N f A s s.heap) (hin : ix i N) (hv : f i.toNatClampNeg = v) (hd : decode cc pc = .ok (.baload, 1)) (k : WW p l e R s m args below meth c D A nL cells slots Q ws loc (v :: st) (pc + 1)) : WW p l e R s m args below meth c D A nL cells slots Q ws loc (.int i :: .ref t :: st) pc := fun H locs ls hP hD hS hl => va_tb cx.1 cx.2.1 hT hS hin hv hd (k H locs ls hP hD hS hl)
theorem r_ldcS (cx : Cx p R s m args meth c D K A own cc nL ret cells slots) {tx : String} {ix a : Nat} (hZ : vk_R own ix tx a s) (hd : decode cc pc = .ok (.ldc ix, 2)) (k : WW p l e R s m args below meth c D A nL cells slots Q ws loc (.ref a :: st) (pc + 2)) : WW p l e R s m args below meth c D A nL cells slots Q ws loc st pc := fun H locs ls hP hD hS hl => va_ldcS cx.1 cx.2.1 cx.2.2.2.1 hZ hd (k H locs ls hP hD hS hl)
theorem r_aloadV (cx : Cx p R s m args meth c D K A own cc nL ret cells slots) {i : Nat} {kf : Fin 4} {x : Nat} (hd : decode cc pc = .ok (.aload_n kf, 1)) (j : Nat) (hj : loc[j]? = some ((kf : Nat), .ref x)) (k : WW p l e R s m args below meth c D A nL cells slots Q ws loc (.ref x :: st) (pc + 1)) : WW p l e R s m args below meth c D A nL cells slots Q ws loc st pc := r_aload_n cx hd j hj k
theorem r_strV (cx : Cx p R s m args meth c D K A own cc nL ret cells slots) {y : MethodName} {b : ByteArray} {maxL : Nat} {rt : Option FieldType} {rm : Room} {r : Int32} {ix : Nat} (i : Nat) (hi : i < 4) (As : List Value) (rest : List Value) (hM : MI l y b maxL rt rm D K (.ref (K (10 + i)) :: As) [] r []) (hyc : y.cls = "java/lang/String") (hy : YV y b maxL rt As.length) (hlk : Cond.methodLink own ix y ∈ WALL) (hrm : rm.cells = 0 ∧ rm.slots = 0) (hR : rm.frames + 1 ≤ R.frames ∧ 8 + (maxL + 11) + rm.locals ≤ R.locals) (hst : st = As.reverse ++ .ref (K (10 + i)) :: rest) (hcat : (rest.map fun v => v.category).sum ≤ 8) (hd : decode cc pc = .ok (.invokevirtual ix, 3)) (kk : WW p l e R s m args below meth c D A nL cells slots Q ws loc (.int r :: rest) (pc + 3)) : WW p l e R s m args below meth c D A nL cells slots Q ws loc st pc := by
  subst hst
  intro H locs ls hP hD hS hl
  have hFc : ∀ q, va_A [] H.size q → A q := fun q h => by
    rcases h with ⟨k, e, h⟩ | h
    · simp at h
    · exact cx.2.2.2.2.2.2.2.2.1 q (Nat.le_trans hS.1 h)
  have hrv := vk_recv cx.2.2.2.2.2.2.2.2.2.2.2.1 hi hS
  rw [← hyc] at hrv
  refine va_calli (va_runV (As := As) (rest := rest) ⟨cx.1, cx.2.1, cx.2.2.1, cx.2.2.2.1, cx.2.2.2.2.1⟩ (hM H.size) (⟨callB_of As.length cx.2.2.2.2.1 (wall_in hy.2.1) rfl hrm.1 hrm.2 (cx.2.2.2.2.1 _ hy.2.2.1) (cx.2.2.2.2.1 _ hlk) hy.1 hR, cx.2.2.2.2.1 _ hy.2.2.2.1, cx.2.2.2.2.1 _ hy.2.2.2.2⟩) ⟨(fun a U g mk q => by obtain ⟨q0, q1, qP, qK, qD, qS⟩ := q; exact ⟨q0, q1, qP, va_K.moved (u := U) (U := U.calling g mk a) (Vm.Alike.refl U.vm) qK, qD, SS.same (u := U) (U := U.calling g mk a) rfl qS⟩), hrv, fun U hU hW => ⟨rfl, by rw [hU], fun k q h => by simp at h, va_K.moved hW.alike cx.2.2.2.2.2.2.2.1, ⟨fun i j p q h => by simp at h, fun k q h => by simp at h⟩, by rw [hU]; exact (((cx.2.2.2.2.2.2.2.2.2.2.2).kept hS.2.1).narrow hFc).warm hW⟩⟩ rfl rfl hl.1 rfl (by show 2 * 0 + _ ≤ 8; omega) hd ⟨cx.2.2.2.2.2.2.2.2.2.1, cx.2.2.2.2.2.2.2.2.2.2.1⟩) hS (fun q _ h => hFc q h) hFc (fun r_ u t H1 locs1 ht hvm hw hB hz1 hk1 hS1 => ?_)
  · obtain ⟨rfl, rfl⟩ := hw
    have hP2 : va_P D vwCl ws H1 := fun k q hq => (hP k q hq).kept (hk1 q.1 (hP k q hq).lt (fun h => by
      rcases h with ⟨k, e, h⟩ | h
      · simp at h
      · exact absurd (hP k q hq).lt (Nat.not_lt.mpr h)))
    exact kk H1 locs1 ls hP2 hD hS1 hl
end STRROW
theorem lenS_ok : ∀ i, i < 4 → lenS.getD i 0 < 2 ^ 31 := by decide
theorem yv_J0_isLatin1_aae02 : YV yJ0_isLatin1_aae02 cJ0_isLatin1_aae02 1 (some .boolean) 0 := ⟨⟨by decide +kernel, by decide +kernel, by decide +kernel⟩, wd_213, wd_91, wd_211, wd_212⟩
theorem yv_J0_coder_7d493 : YV yJ0_coder_7d493 cJ0_coder_7d493 1 (some .byte) 0 := ⟨⟨by decide +kernel, by decide +kernel, by decide +kernel⟩, wd_203, wd_91, wd_201, wd_202⟩
theorem yv_J0_length_8abf5 : YV yJ0_length_8abf5 cJ0_length_8abf5 1 (some .int) 0 := ⟨⟨by decide +kernel, by decide +kernel, by decide +kernel⟩, wd_199, wd_91, wd_197, wd_198⟩
theorem yv_J0_charAt_5068e : YV yJ0_charAt_5068e cJ0_charAt_5068e 2 (some .char) 1 := ⟨⟨by decide +kernel, by decide +kernel, by decide +kernel⟩, wd_209, wd_91, wd_207, wd_208⟩
theorem ys_J1_charAt_3b067 : YS yJ1_charAt_3b067 cJ1_charAt_3b067 2 (some .char) 2 := ⟨⟨by decide +kernel, by decide +kernel, by decide +kernel⟩, wd_216, wd_92, wd_215⟩
theorem ys_J0_checkIndex_df160 : YS yJ0_checkIndex_df160 cJ0_checkIndex_df160 2 (none) 2 := ⟨⟨by decide +kernel, by decide +kernel, by decide +kernel⟩, wd_219, wd_91, wd_218⟩
theorem ys_J3_checkIndex_8e157 : YS yJ3_checkIndex_8e157 cJ3_checkIndex_8e157 3 (some .int) 3 := ⟨⟨by decide +kernel, by decide +kernel, by decide +kernel⟩, wd_224, wd_93, wd_223⟩
set_option maxRecDepth 100000 in
set_option maxHeartbeats 4000000 in
theorem s_isLatin1 (l : Launch) (D : va_G) (K : Nat → ClassId) (i : Nat) (hi : i < 4) : MI l yJ0_isLatin1_aae02 cJ0_isLatin1_aae02 1 (some .boolean) ({ frames := 0, cells := 0, slots := 0, locals := 0 }) D K [.ref (K (10 + i))] [] 1 [] := by
  refine MI_of (loc0 := [(0, .ref (K (10 + i)))]) (by decide +kernel) rfl (Nat.le_of_ble_eq_true rfl) ?_
  intro p e s m args below meth c A cx
  refine r_gets (pc := 0) cx cx.2.2.2.2.2.2.2.2.2.2.2.2.1 wd_204 dJ0_isLatin1_aae02_0 ?_
  refine r_if_eq (pc := 3) (tgt := 17) cx dJ0_isLatin1_aae02_3 (by decide) (fun h => absurd h (by decide)) (fun _ => ?_)
  refine r_aload_n (pc := 6) cx dJ0_isLatin1_aae02_6 0 rfl ?_
  refine r_getO (pc := 7) cx (cx.2.2.2.2.2.2.2.2.2.2.2.1.1 i hi).2.1 wd_1894 dJ0_isLatin1_aae02_7 ?_
  refine r_if_ne (pc := 10) (tgt := 17) cx dJ0_isLatin1_aae02_10 (by decide) (fun h => absurd rfl h) (fun _ => ?_)
  refine r_iconst (pc := 13) (v := 1) cx dJ0_isLatin1_aae02_13 (by decide) ?_
  refine r_goto (pc := 14) (tgt := 18) cx dJ0_isLatin1_aae02_14 (by decide) ?_
  exact r_zret (pc := 18) cx (Or.inr rfl) rfl rfl dJ0_isLatin1_aae02_18
set_option maxRecDepth 100000 in
set_option maxHeartbeats 4000000 in
theorem s_coder (l : Launch) (D : va_G) (K : Nat → ClassId) (i : Nat) (hi : i < 4) : MI l yJ0_coder_7d493 cJ0_coder_7d493 1 (some .byte) ({ frames := 0, cells := 0, slots := 0, locals := 0 }) D K [.ref (K (10 + i))] [] 0 [] := by
  refine MI_of (loc0 := [(0, .ref (K (10 + i)))]) (by decide +kernel) rfl (Nat.le_of_ble_eq_true rfl) ?_
  intro p e s m args below meth c A cx
  refine r_gets (pc := 0) cx cx.2.2.2.2.2.2.2.2.2.2.2.2.1 wd_204 dJ0_coder_7d493_0 ?_
  refine r_if_eq (pc := 3) (tgt := 13) cx dJ0_coder_7d493_3 (by decide) (fun h => absurd h (by decide)) (fun _ => ?_)
  refine r_aload_n (pc := 6) cx dJ0_coder_7d493_6 0 rfl ?_
  refine r_getO (pc := 7) cx (cx.2.2.2.2.2.2.2.2.2.2.2.1.1 i hi).2.1 wd_1894 dJ0_coder_7d493_7 ?_
  refine r_goto (pc := 10) (tgt := 14) cx dJ0_coder_7d493_10 (by decide) ?_
  exact r_tret (pc := 14) cx rfl rfl rfl dJ0_coder_7d493_14
set_option maxRecDepth 100000 in
set_option maxHeartbeats 4000000 in
theorem s_pcheck (l : Launch) (D : va_G) (K : Nat → ClassId) (a n : Int32) (v : Value) (hv : v = .null ∨ ∃ a, v = .ref a) (h0 : ¬ a < 0) (h1 : a < n) : MI l yJ3_checkIndex_8e157 cJ3_checkIndex_8e157 3 (some .int) ({ frames := 0, cells := 0, slots := 0, locals := 0 }) D K [.int a, .int n, v] [] a [] := by
  have hlen : (lg_sl [.int a, .int n, v]).length ≤ 3 := by rcases hv with rfl | ⟨z, rfl⟩ <;> exact Nat.le_of_ble_eq_true rfl
  refine MI_of (loc0 := [(0, .int a), (1, .int n), (2, v)]) (by decide +kernel) rfl hlen ?_
  intro p e s m args below meth c A cx
  refine r_iload_n (pc := 0) cx dJ3_checkIndex_8e157_0 0 rfl ?_
  refine r_if_lt (pc := 1) (tgt := 9) cx dJ3_checkIndex_8e157_1 (by decide) (fun h => absurd h h0) (fun _ => ?_)
  refine r_iload_n (pc := 4) cx dJ3_checkIndex_8e157_4 0 rfl ?_
  refine r_iload_n (pc := 5) cx dJ3_checkIndex_8e157_5 1 rfl ?_
  refine r_icmp_lt (pc := 6) (tgt := 16) cx dJ3_checkIndex_8e157_6 (by decide) (fun _ => ?_) (fun h => absurd h1 h)
  refine r_iload_n (pc := 16) cx dJ3_checkIndex_8e157_16 0 rfl ?_
  exact r_iret (pc := 17) cx rfl rfl dJ3_checkIndex_8e157_17
set_option maxRecDepth 100000 in
set_option maxHeartbeats 4000000 in
theorem s_check (l : Launch) (D : va_G) (K : Nat → ClassId) (a n : Int32) (h0 : ¬ a < 0) (h1 : a < n) : MV l yJ0_checkIndex_df160 cJ0_checkIndex_df160 2 (none) ({ frames := 1, cells := 0, slots := 0, locals := 40 }) D K [.int a, .int n] [] [] := by
  refine MV_of (loc0 := [(0, .int a), (1, .int n)]) (by decide +kernel) rfl (Nat.le_of_ble_eq_true rfl) ?_
  intro p e s m args below meth c A cx
  obtain ⟨v, hv, hz⟩ := cx.2.2.2.2.2.2.2.2.2.2.2.2.2.1
  have hcat : v.category = 1 := by rcases hv with rfl | ⟨z, rfl⟩ <;> rfl
  refine r_iload_n (pc := 0) cx dJ0_checkIndex_df160_0 0 rfl ?_
  refine r_iload_n (pc := 1) cx dJ0_checkIndex_df160_1 1 rfl ?_
  refine r_gets (pc := 2) cx hz wd_220 dJ0_checkIndex_df160_2 ?_
  refine r_Si (pc := 5) (ws' := []) (wc := []) (nn := 0) cx [.int a, .int n, v] [] (s_pcheck l D K a n v hv h0 h1) rfl ys_J3_checkIndex_8e157 wd_222 ⟨rfl, rfl⟩ (by decide) fr_n rfl (by decide) rfl (Nat.le_of_ble_eq_true rfl) dJ0_checkIndex_df160_5 ?_
  refine r_pop (pc := 8) cx dJ0_checkIndex_df160_8 rfl ?_
  exact r_vret (pc := 9) cx rfl dJ0_checkIndex_df160_9
theorem ix_lt {k : Int32} {N : Nat} (hN : N < 2 ^ 31) (h : ix k N) : ¬ k < 0 ∧ k < Int32.ofNat N := by
  obtain ⟨j, hj, rfl⟩ := vp_in_of (x := k) (n := N) h hN
  exact ⟨nI_pos (by omega), nI_lt hj hN⟩
theorem slen_sh (i : Nat) : Int32.ofNat (lenS.getD i 0) >>> ((0 : Int32) &&& 31) = slen i := by
  have h : (0 : Int32) &&& 31 = 0 := by decide
  rw [h]
  apply Int32.toBitVec_inj.mp
  simp [slen]
set_option maxRecDepth 100000 in
set_option maxHeartbeats 4000000 in
theorem s_char1 (l : Launch) (D : va_G) (K : Nat → ClassId) (i : Nat) (k : Int32) (hi : i < 4) (hk : ix k (lenS.getD i 0)) : MI l yJ1_charAt_3b067 cJ1_charAt_3b067 2 (some .char) ({ frames := 2, cells := 0, slots := 0, locals := 80 }) D K [.ref (K (20 + i)), .int k] [] (sch i k) [] := by
  obtain ⟨h0, h1⟩ := ix_lt (lenS_ok i hi) hk
  refine MI_of (loc0 := [(0, .ref (K (20 + i))), (1, .int k)]) (by decide +kernel) rfl (Nat.le_of_ble_eq_true rfl) ?_
  intro p e s m args below meth c A cx
  refine r_iload_n (pc := 0) cx dJ1_charAt_3b067_0 1 rfl ?_
  refine r_aload_n (pc := 1) cx dJ1_charAt_3b067_1 0 rfl ?_
  refine r_lenT (pc := 2) (v := Int32.ofNat (lenS.getD i 0)) cx (cx.2.2.2.2.2.2.2.2.2.2.2.1.1 i hi).2.2.2 rfl dJ1_charAt_3b067_2 ?_
  refine r_Sv (pc := 3) (ws' := []) (wc := []) (nn := 0) cx [.int k, .int (Int32.ofNat (lenS.getD i 0))] [] (s_check l D K k (Int32.ofNat (lenS.getD i 0)) h0 h1) rfl ys_J0_checkIndex_df160 wd_217 ⟨rfl, rfl⟩ (by decide) fr_n rfl (by decide) rfl (Nat.le_of_ble_eq_true rfl) dJ1_charAt_3b067_3 ?_
  refine r_aload_n (pc := 6) cx dJ1_charAt_3b067_6 0 rfl ?_
  refine r_iload_n (pc := 7) cx dJ1_charAt_3b067_7 1 rfl ?_
  refine r_baldT (pc := 8) cx (cx.2.2.2.2.2.2.2.2.2.2.2.1.1 i hi).2.2.2 hk rfl dJ1_charAt_3b067_8 ?_
  refine r_sipush (pc := 9) (v := 255) cx dJ1_charAt_3b067_9 (by decide) ?_
  refine r_iand (pc := 12) cx dJ1_charAt_3b067_12 ?_
  refine r_i2c (pc := 13) cx dJ1_charAt_3b067_13 ?_
  exact r_tret (pc := 14) cx (pk_nc _) rfl rfl dJ1_charAt_3b067_14
set_option maxRecDepth 100000 in
set_option maxHeartbeats 4000000 in
theorem s_charAt (l : Launch) (D : va_G) (K : Nat → ClassId) (i : Nat) (k : Int32) (hi : i < 4) (hk : ix k (lenS.getD i 0)) : MI l yJ0_charAt_5068e cJ0_charAt_5068e 2 (some .char) ({ frames := 3, cells := 0, slots := 0, locals := 130 }) D K [.ref (K (10 + i)), .int k] [] (sch i k) [] := by
  refine MI_of (loc0 := [(0, .ref (K (10 + i))), (1, .int k)]) (by decide +kernel) rfl (Nat.le_of_ble_eq_true rfl) ?_
  intro p e s m args below meth c A cx
  refine r_aload_n (pc := 0) cx dJ0_charAt_5068e_0 0 rfl ?_
  refine r_strV (pc := 1) cx i hi [] [] (s_isLatin1 l D K i hi) rfl yv_J0_isLatin1_aae02 wd_210 ⟨rfl, rfl⟩ (by decide) rfl (Nat.le_of_ble_eq_true rfl) dJ0_charAt_5068e_1 ?_
  refine r_if_eq (pc := 4) (tgt := 16) cx dJ0_charAt_5068e_4 (by decide) (fun h => absurd h (by decide)) (fun _ => ?_)
  refine r_aload_n (pc := 7) cx dJ0_charAt_5068e_7 0 rfl ?_
  refine r_getO (pc := 8) cx (cx.2.2.2.2.2.2.2.2.2.2.2.1.1 i hi).2.2.1 wd_1893 dJ0_charAt_5068e_8 ?_
  refine r_iload_n (pc := 11) cx dJ0_charAt_5068e_11 1 rfl ?_
  refine r_Si (pc := 12) (ws' := []) (wc := []) (nn := 0) cx [.ref (K (20 + i)), .int k] [] (s_char1 l D K i k hi hk) rfl ys_J1_charAt_3b067 wd_214 ⟨rfl, rfl⟩ (by decide) fr_n rfl (by decide) rfl (Nat.le_of_ble_eq_true rfl) dJ0_charAt_5068e_12 ?_
  exact r_tret (pc := 15) cx (pk_nc _) rfl rfl dJ0_charAt_5068e_15
set_option maxRecDepth 100000 in
set_option maxHeartbeats 4000000 in
theorem s_length (l : Launch) (D : va_G) (K : Nat → ClassId) (i : Nat) (hi : i < 4) : MI l yJ0_length_8abf5 cJ0_length_8abf5 1 (some .int) ({ frames := 1, cells := 0, slots := 0, locals := 40 }) D K [.ref (K (10 + i))] [] (slen i) [] := by
  refine MI_of (loc0 := [(0, .ref (K (10 + i)))]) (by decide +kernel) rfl (Nat.le_of_ble_eq_true rfl) ?_
  intro p e s m args below meth c A cx
  refine r_aload_n (pc := 0) cx dJ0_length_8abf5_0 0 rfl ?_
  refine r_getO (pc := 1) cx (cx.2.2.2.2.2.2.2.2.2.2.2.1.1 i hi).2.2.1 wd_1893 dJ0_length_8abf5_1 ?_
  refine r_lenT (pc := 4) (v := Int32.ofNat (lenS.getD i 0)) cx (cx.2.2.2.2.2.2.2.2.2.2.2.1.1 i hi).2.2.2 rfl dJ0_length_8abf5_4 ?_
  refine r_aload_n (pc := 5) cx dJ0_length_8abf5_5 0 rfl ?_
  refine r_strV (pc := 6) cx i hi [] [.int (Int32.ofNat (lenS.getD i 0))] (s_coder l D K i hi) rfl yv_J0_coder_7d493 wd_200 ⟨rfl, rfl⟩ (by decide) rfl (Nat.le_of_ble_eq_true rfl) dJ0_length_8abf5_6 ?_
  refine r_ishr (pc := 9) cx dJ0_length_8abf5_9 ?_
  exact r_iret (pc := 10) cx (slen_sh i) rfl dJ0_length_8abf5_10
