def f_Rd_letterBits (a0 : Int32) (a1 : Int32) : Option (Int32) :=
  (if a0 < (97 : Int32) then (some (0 : Int32)) else (if (122 : Int32) < a0 then (some (0 : Int32)) else (some (((a0 - (97 : Int32)) + (1 : Int32)) <<< (((25 : Int32) - ((5 : Int32) * a1)) &&& 31)))))
abbrev rm_Rd_letterBits : Room := { frames := 0, cells := 0, slots := 0, locals := 0 }
set_option maxRecDepth 100000 in
set_option maxHeartbeats 4000000 in
theorem m_Rd_letterBits (l : Launch) (D : va_G) (K : Nat → ClassId) (a0 : Int32) (a1 : Int32) {r_ : Int32} (hf : f_Rd_letterBits a0 a1 = some r_) : MI l yX6_letterBits cX6_letterBits 2 (some .int) rm_Rd_letterBits D K [.int a0, .int a1] ([]) r_ ([]) := by
  refine MI_of (loc0 := [(0, .int a0), (1, .int a1)]) (by decide +kernel) rfl (Nat.le_of_ble_eq_true rfl) ?_
  intro p e s m args below meth c A cx
  unfold f_Rd_letterBits at hf
  refine r_ws (ws' := []) rfl ?_
  refine r_iload_n (pc := 0) cx dX6_letterBits_0 0 rfl ?_
  refine r_bipush (pc := 1) cx dX6_letterBits_1 bp_97 ?_
  refine r_icmp_lt (pc := 3) (tgt := 28) cx dX6_letterBits_3 (by decide) (fun h1 => ?_) (fun h1 => ?_)
  · have hf := ifp h1 hf
    refine r_iconst (pc := 28) cx dX6_letterBits_28 ic_0 ?_
    cases hf
    exact r_iret (pc := 29) cx rfl rfl dX6_letterBits_29
  · have hf := ifn h1 hf
    refine r_iload_n (pc := 6) cx dX6_letterBits_6 0 rfl ?_
    refine r_bipush (pc := 7) cx dX6_letterBits_7 bp_122 ?_
    refine r_icmp_gt (pc := 9) (tgt := 28) cx dX6_letterBits_9 (by decide) (fun h2 => ?_) (fun h2 => ?_)
    · have hf := ifp h2 hf
      refine r_iconst (pc := 28) cx dX6_letterBits_28 ic_0 ?_
      cases hf
      exact r_iret (pc := 29) cx rfl rfl dX6_letterBits_29
    · have hf := ifn h2 hf
      refine r_iload_n (pc := 12) cx dX6_letterBits_12 0 rfl ?_
      refine r_bipush (pc := 13) cx dX6_letterBits_13 bp_97 ?_
      refine r_isub (pc := 15) cx dX6_letterBits_15 ?_
      refine r_iconst (pc := 16) cx dX6_letterBits_16 ic_1 ?_
      refine r_iadd (pc := 17) cx dX6_letterBits_17 ?_
      refine r_bipush (pc := 18) cx dX6_letterBits_18 bp_25 ?_
      refine r_iconst (pc := 20) cx dX6_letterBits_20 ic_5 ?_
      refine r_iload_n (pc := 21) cx dX6_letterBits_21 1 rfl ?_
      refine r_imul (pc := 22) cx dX6_letterBits_22 ?_
      refine r_isub (pc := 23) cx dX6_letterBits_23 ?_
      refine r_ishl (pc := 24) cx dX6_letterBits_24 ?_
      refine r_goto (pc := 25) (tgt := 29) cx dX6_letterBits_25 (by decide) ?_
      cases hf
      exact r_iret (pc := 29) cx rfl rfl dX6_letterBits_29
theorem ys_X6_letterBits : YS yX6_letterBits cX6_letterBits 2 (some .int) 2 := ⟨⟨by decide +kernel, by decide +kernel, by decide +kernel⟩, wd_246, wd_90, wd_245⟩
def f_Rd_hasRoom (v : T_Rd) : Option (Int32) :=
  (if (700 : Int32) < ((Rd_filled v) + (20 : Int32)) then (some (0 : Int32)) else (some (1 : Int32)))
abbrev rm_Rd_hasRoom : Room := { frames := 0, cells := 0, slots := 0, locals := 0 }
set_option maxRecDepth 100000 in
set_option maxHeartbeats 4000000 in
theorem m_Rd_hasRoom (l : Launch) (D : va_G) (K : Nat → ClassId) (q : Nat → Nat) (v : T_Rd) {r_ : Int32} (hf : f_Rd_hasRoom v = some r_) : MI l yX6_hasRoom cX6_hasRoom 1 (some .boolean) rm_Rd_hasRoom D K [.ref (q 0)] (cl_Rd K q v) r_ (cl_Rd K q v) := by
  refine MI_of (loc0 := [(0, .ref (q 0))]) (by decide +kernel) rfl (Nat.le_of_ble_eq_true rfl) ?_
  intro p e s m args below meth c A cx
  unfold f_Rd_hasRoom at hf
  refine r_ws (ws' := [((q 0), ob 5 [.ref (q 1), .int (Rd_filled v), .int (Rd_fault v), .int (Rd_faultPlace v), .ref (q 2), .ref (q 3), .ref (q 4), .ref (q 5), .int (Rd_limit v), .int (Rd_position v), .int (Rd_token v), .int (Rd_value v), .int (Rd_place v), .int (Rd_toldRules v), .int (Rd_toldData v)]), ((q 1), aB K 700 (Rd_tape v)), ((q 2), aI K 25 (Rd_words v)), ((q 3), aI K 75 (Rd_sorts v)), ((q 4), aI K 3 (Rd_parts v)), ((q 5), aI K 64 (Rd_wantedPlaces v))]) rfl ?_
  refine r_aload_n (pc := 0) cx dX6_hasRoom_0 0 rfl ?_
  refine r_get (pc := 1) cx cf_X6 0 1 rfl (by decide) rfl wd_251 dX6_hasRoom_1 ?_
  refine r_bipush (pc := 4) cx dX6_hasRoom_4 bp_20 ?_
  refine r_iadd (pc := 6) cx dX6_hasRoom_6 ?_
  refine r_sipush (pc := 7) cx dX6_hasRoom_7 sp_700 ?_
  refine r_icmp_gt (pc := 10) (tgt := 17) cx dX6_hasRoom_10 (by decide) (fun h1 => ?_) (fun h1 => ?_)
  · have hf := ifp h1 hf
    refine r_iconst (pc := 17) cx dX6_hasRoom_17 ic_0 ?_
    cases hf
    exact r_zret (pc := 18) cx (Or.inl rfl) rfl rfl dX6_hasRoom_18
  · have hf := ifn h1 hf
    refine r_iconst (pc := 13) cx dX6_hasRoom_13 ic_1 ?_
    refine r_goto (pc := 14) (tgt := 18) cx dX6_hasRoom_14 (by decide) ?_
    cases hf
    exact r_zret (pc := 18) cx (Or.inr rfl) rfl rfl dX6_hasRoom_18
theorem yv_X6_hasRoom : YV yX6_hasRoom cX6_hasRoom 1 (some .boolean) 0 := ⟨⟨by decide +kernel, by decide +kernel, by decide +kernel⟩, wd_607, wd_90, wd_605, wd_606⟩
def f_Rd_append_L3 (a1 : Int32) (k3_53 : Int32 → (Nat → Int32) → Option (T_Rd)) : Nat → Int32 → Int32 → (Nat → Int32) → Option (T_Rd)
  | 0, _, _, _ => none
  | n3 + 1, x1, x2, f3 =>
    (if x1 < (0 : Int32) then (k3_53 x2 f3) else (if x2 < (0 : Int32) then (k3_53 x2 f3) else (if (700 : Int32) ≤ x2 then (k3_53 x2 f3) else (nm (((a1 >>> (x1 &&& 31))).toInt8.toInt32) fun (x9 : Int32) => (if ix x2 700 then (nm (upd f3 x2.toNatClampNeg (vp_nar .byte x9)) fun (f11 : Nat → Int32) => (nm (x2 + (1 : Int32)) fun (x12 : Int32) => (nm (x1 + (-8 : Int32)) fun (x13 : Int32) => (f_Rd_append_L3 a1 k3_53 n3 x13 x12 f11)))) else none)))))
def f_Rd_append (v : T_Rd) (a1 : Int32) : Option (T_Rd) :=
  (f_Rd_append_L3 a1 (fun (x4 : Int32) (f5 : (Nat → Int32)) => (some (f5, x4, (Rd_fault v), (Rd_faultPlace v), (Rd_words v), (Rd_sorts v), (Rd_parts v), (Rd_wantedPlaces v), (Rd_limit v), (Rd_position v), (Rd_token v), (Rd_value v), (Rd_place v), (Rd_toldRules v), (Rd_toldData v)))) LF (24 : Int32) (Rd_filled v) (Rd_tape v))
abbrev rm_Rd_append : Room := { frames := 0, cells := 0, slots := 0, locals := 0 }
set_option maxRecDepth 100000 in
set_option maxHeartbeats 4000000 in
theorem m_Rd_append (l : Launch) (D : va_G) (K : Nat → ClassId) (q : Nat → Nat) (v : T_Rd) (a1 : Int32) {o_v : T_Rd} (hf : f_Rd_append v a1 = some o_v) : MV l yX6_append cX6_append 3 (none) rm_Rd_append D K [.ref (q 0), .int a1] (cl_Rd K q v) (cl_Rd K q o_v) := by
  refine MV_of (loc0 := [(0, .ref (q 0)), (1, .int a1)]) (by decide +kernel) rfl (Nat.le_of_ble_eq_true rfl) ?_
  intro p e s m args below meth c A cx
  unfold f_Rd_append at hf
  refine r_ws (ws' := [((q 0), ob 5 [.ref (q 1), .int (Rd_filled v), .int (Rd_fault v), .int (Rd_faultPlace v), .ref (q 2), .ref (q 3), .ref (q 4), .ref (q 5), .int (Rd_limit v), .int (Rd_position v), .int (Rd_token v), .int (Rd_value v), .int (Rd_place v), .int (Rd_toldRules v), .int (Rd_toldData v)]), ((q 1), aB K 700 (Rd_tape v)), ((q 2), aI K 25 (Rd_words v)), ((q 3), aI K 75 (Rd_sorts v)), ((q 4), aI K 3 (Rd_parts v)), ((q 5), aI K 64 (Rd_wantedPlaces v))]) rfl ?_
  refine r_bipush (pc := 0) cx dX6_append_0 bp_24 ?_
  refine r_istore_n (pc := 2) (loc' := [(2, .int (24 : Int32)), (0, .ref (q 0)), (1, .int a1)]) cx dX6_append_2 rfl (by decide) rfl ?_
  have hL3 : ∀ (k3_53 : Int32 → (Nat → Int32) → Option (T_Rd)), (∀ (x4 : Int32) (f5 : (Nat → Int32)), k3_53 x4 f5 = some o_v → WW p l e rm_Rd_append s m args below meth c D A 3 0 0 (MQ below (QV D K A (cl_Rd K q o_v)) args s 0 0 A) ([((q 0), ob 5 [.ref (q 1), .int x4, .int (Rd_fault v), .int (Rd_faultPlace v), .ref (q 2), .ref (q 3), .ref (q 4), .ref (q 5), .int (Rd_limit v), .int (Rd_position v), .int (Rd_token v), .int (Rd_value v), .int (Rd_place v), .int (Rd_toldRules v), .int (Rd_toldData v)]), ((q 1), aB K 700 f5), ((q 2), aI K 25 (Rd_words v)), ((q 3), aI K 75 (Rd_sorts v)), ((q 4), aI K 3 (Rd_parts v)), ((q 5), aI K 64 (Rd_wantedPlaces v))]) ([]) ([]) 53) → ∀ (n3 : Nat) (x1 : Int32) (x2 : Int32) (f3 : (Nat → Int32)), f_Rd_append_L3 a1 k3_53 n3 x1 x2 f3 = some o_v → WW p l e rm_Rd_append s m args below meth c D A 3 0 0 (MQ below (QV D K A (cl_Rd K q o_v)) args s 0 0 A) ([((q 0), ob 5 [.ref (q 1), .int x2, .int (Rd_fault v), .int (Rd_faultPlace v), .ref (q 2), .ref (q 3), .ref (q 4), .ref (q 5), .int (Rd_limit v), .int (Rd_position v), .int (Rd_token v), .int (Rd_value v), .int (Rd_place v), .int (Rd_toldRules v), .int (Rd_toldData v)]), ((q 1), aB K 700 f3), ((q 2), aI K 25 (Rd_words v)), ((q 3), aI K 75 (Rd_sorts v)), ((q 4), aI K 3 (Rd_parts v)), ((q 5), aI K 64 (Rd_wantedPlaces v))]) ([(0, .ref (q 0)), (1, .int a1), (2, .int x1)]) ([]) 3 := by
    intro k3_53 hk3_53 n3
    induction n3 with
    | zero => intro x1 x2 f3 hf; exact (nomatch (show (none : Option (T_Rd)) = some _ from hf))
    | succ n3 ih3 =>
      intro x1 x2 f3 hf
      rw [f_Rd_append_L3] at hf
      refine r_iload_n (pc := 3) cx dX6_append_3 2 rfl ?_
      refine r_if_lt (pc := 4) (tgt := 53) cx dX6_append_4 (by decide) (fun h6 => ?_) (fun h6 => ?_)
      · have hf := ifp h6 hf
        refine r_loc (loc' := []) [] rfl ?_
        exact hk3_53 _ _ hf
      · have hf := ifn h6 hf
        refine r_aload_n (pc := 7) cx dX6_append_7 0 rfl ?_
        refine r_get (pc := 8) cx cf_X6 0 1 rfl (by decide) rfl wd_251 dX6_append_8 ?_
        refine r_if_lt (pc := 11) (tgt := 53) cx dX6_append_11 (by decide) (fun h7 => ?_) (fun h7 => ?_)
        · have hf := ifp h7 hf
          refine r_loc (loc' := []) [] rfl ?_
          exact hk3_53 _ _ hf
        · have hf := ifn h7 hf
          refine r_aload_n (pc := 14) cx dX6_append_14 0 rfl ?_
          refine r_get (pc := 15) cx cf_X6 0 1 rfl (by decide) rfl wd_251 dX6_append_15 ?_
          refine r_sipush (pc := 18) cx dX6_append_18 sp_700 ?_
          refine r_icmp_ge (pc := 21) (tgt := 53) cx dX6_append_21 (by decide) (fun h8 => ?_) (fun h8 => ?_)
          · have hf := ifp h8 hf
            refine r_loc (loc' := []) [] rfl ?_
            exact hk3_53 _ _ hf
          · have hf := ifn h8 hf
            refine r_aload_n (pc := 24) cx dX6_append_24 0 rfl ?_
            refine r_get (pc := 25) cx cf_X6 0 0 rfl (by decide) rfl wd_249 dX6_append_25 ?_
            refine r_aload_n (pc := 28) cx dX6_append_28 0 rfl ?_
            refine r_get (pc := 29) cx cf_X6 0 1 rfl (by decide) rfl wd_251 dX6_append_29 ?_
            refine r_iload_n (pc := 32) cx dX6_append_32 1 rfl ?_
            refine r_iload_n (pc := 33) cx dX6_append_33 2 rfl ?_
            refine r_ishr (pc := 34) cx dX6_append_34 ?_
            refine r_i2b (pc := 35) cx dX6_append_35 ?_
            obtain ⟨x9, ex9, hf⟩ := nm_of hf
            refine r_nm ex9 ?_
            obtain ⟨h10, hf⟩ := chk_of hf
            obtain ⟨f11, ef11, hf⟩ := nm_of hf
            refine r_bast (pc := 36) (ws' := [((q 0), ob 5 [.ref (q 1), .int x2, .int (Rd_fault v), .int (Rd_faultPlace v), .ref (q 2), .ref (q 3), .ref (q 4), .ref (q 5), .int (Rd_limit v), .int (Rd_position v), .int (Rd_token v), .int (Rd_value v), .int (Rd_place v), .int (Rd_toldRules v), .int (Rd_toldData v)]), ((q 1), aB K 700 f11), ((q 2), aI K 25 (Rd_words v)), ((q 3), aI K 75 (Rd_sorts v)), ((q 4), aI K 3 (Rd_parts v)), ((q 5), aI K 64 (Rd_wantedPlaces v))]) cx 1 rfl h10 dX6_append_36 ef11 rfl ?_
            refine r_aload_n (pc := 37) cx dX6_append_37 0 rfl ?_
            refine r_dup (pc := 38) cx dX6_append_38 rfl ?_
            refine r_get (pc := 39) cx cf_X6 0 1 rfl (by decide) rfl wd_251 dX6_append_39 ?_
            refine r_iconst (pc := 42) cx dX6_append_42 ic_1 ?_
            refine r_iadd (pc := 43) cx dX6_append_43 ?_
            obtain ⟨x12, ex12, hf⟩ := nm_of hf
            refine r_nm ex12 ?_
            refine r_putI (pc := 44) (ws' := [((q 0), ob 5 [.ref (q 1), .int x12, .int (Rd_fault v), .int (Rd_faultPlace v), .ref (q 2), .ref (q 3), .ref (q 4), .ref (q 5), .int (Rd_limit v), .int (Rd_position v), .int (Rd_token v), .int (Rd_value v), .int (Rd_place v), .int (Rd_toldRules v), .int (Rd_toldData v)]), ((q 1), aB K 700 f11), ((q 2), aI K 25 (Rd_words v)), ((q 3), aI K 75 (Rd_sorts v)), ((q 4), aI K 3 (Rd_parts v)), ((q 5), aI K 64 (Rd_wantedPlaces v))]) cx cf_X6 0 1 rfl (by decide) (Nat.le_of_ble_eq_true rfl) rfl pfd_I wd_251 dX6_append_44 rfl ?_
            obtain ⟨x13, ex13, hf⟩ := nm_of hf
            refine r_iinc (pc := 47) (loc' := [(2, .int x13), (0, .ref (q 0)), (1, .int a1)]) (v := x13) cx dX6_append_47 2 rfl ((congrArg (fun z => x1 + z) ic_m8).trans ex13.symm) (by decide) rfl ?_
            refine r_goto (pc := 50) (tgt := 3) cx dX6_append_50 (by decide) ?_
            refine r_loc (loc' := [(0, .ref (q 0)), (1, .int a1), (2, .int x13)]) [1, 2, 0] rfl ?_
            exact ih3 _ _ _ hf
  refine r_loc (loc' := [(0, .ref (q 0)), (1, .int a1), (2, .int (24 : Int32))]) [1, 2, 0] rfl ?_
  refine hL3 _ (fun x4 f5 hf => ?_) _ _ _ _ hf
  cases hf
  exact r_vret (pc := 53) cx rfl dX6_append_53
theorem yv_X6_append : YV yX6_append cX6_append 3 (none) 1 := ⟨⟨by decide +kernel, by decide +kernel, by decide +kernel⟩, wd_611, wd_90, wd_609, wd_610⟩
def f_Rd_signAt (v : T_Rd) (a1 : Int32) : Option (Int32) :=
  (if a1 < (0 : Int32) then (some (-1 : Int32)) else (if (Rd_limit v) ≤ a1 then (some (-1 : Int32)) else (if (700 : Int32) ≤ a1 then (some (-1 : Int32)) else (if ix a1 700 then (some (((Rd_tape v) a1.toNatClampNeg) &&& (255 : Int32))) else none))))
abbrev rm_Rd_signAt : Room := { frames := 0, cells := 0, slots := 0, locals := 0 }
set_option maxRecDepth 100000 in
set_option maxHeartbeats 4000000 in
theorem m_Rd_signAt (l : Launch) (D : va_G) (K : Nat → ClassId) (q : Nat → Nat) (v : T_Rd) (a1 : Int32) {r_ : Int32} (hf : f_Rd_signAt v a1 = some r_) : MI l yX6_signAt cX6_signAt 2 (some .int) rm_Rd_signAt D K [.ref (q 0), .int a1] (cl_Rd K q v) r_ (cl_Rd K q v) := by
  refine MI_of (loc0 := [(0, .ref (q 0)), (1, .int a1)]) (by decide +kernel) rfl (Nat.le_of_ble_eq_true rfl) ?_
  intro p e s m args below meth c A cx
  unfold f_Rd_signAt at hf
  refine r_ws (ws' := [((q 0), ob 5 [.ref (q 1), .int (Rd_filled v), .int (Rd_fault v), .int (Rd_faultPlace v), .ref (q 2), .ref (q 3), .ref (q 4), .ref (q 5), .int (Rd_limit v), .int (Rd_position v), .int (Rd_token v), .int (Rd_value v), .int (Rd_place v), .int (Rd_toldRules v), .int (Rd_toldData v)]), ((q 1), aB K 700 (Rd_tape v)), ((q 2), aI K 25 (Rd_words v)), ((q 3), aI K 75 (Rd_sorts v)), ((q 4), aI K 3 (Rd_parts v)), ((q 5), aI K 64 (Rd_wantedPlaces v))]) rfl ?_
  refine r_iload_n (pc := 0) cx dX6_signAt_0 1 rfl ?_
  refine r_if_lt (pc := 1) (tgt := 32) cx dX6_signAt_1 (by decide) (fun h1 => ?_) (fun h1 => ?_)
  · have hf := ifp h1 hf
    refine r_iconst (pc := 32) cx dX6_signAt_32 ic_m1 ?_
    cases hf
    exact r_iret (pc := 33) cx rfl rfl dX6_signAt_33
  · have hf := ifn h1 hf
    refine r_iload_n (pc := 4) cx dX6_signAt_4 1 rfl ?_
    refine r_aload_n (pc := 5) cx dX6_signAt_5 0 rfl ?_
    refine r_get (pc := 6) cx cf_X6 0 8 rfl (by decide) rfl wd_260 dX6_signAt_6 ?_
    refine r_icmp_ge (pc := 9) (tgt := 32) cx dX6_signAt_9 (by decide) (fun h2 => ?_) (fun h2 => ?_)
    · have hf := ifp h2 hf
      refine r_iconst (pc := 32) cx dX6_signAt_32 ic_m1 ?_
      cases hf
      exact r_iret (pc := 33) cx rfl rfl dX6_signAt_33
    · have hf := ifn h2 hf
      refine r_iload_n (pc := 12) cx dX6_signAt_12 1 rfl ?_
      refine r_sipush (pc := 13) cx dX6_signAt_13 sp_700 ?_
      refine r_icmp_ge (pc := 16) (tgt := 32) cx dX6_signAt_16 (by decide) (fun h3 => ?_) (fun h3 => ?_)
      · have hf := ifp h3 hf
        refine r_iconst (pc := 32) cx dX6_signAt_32 ic_m1 ?_
        cases hf
        exact r_iret (pc := 33) cx rfl rfl dX6_signAt_33
      · have hf := ifn h3 hf
        refine r_aload_n (pc := 19) cx dX6_signAt_19 0 rfl ?_
        refine r_get (pc := 20) cx cf_X6 0 0 rfl (by decide) rfl wd_249 dX6_signAt_20 ?_
        refine r_iload_n (pc := 23) cx dX6_signAt_23 1 rfl ?_
        obtain ⟨h4, hf⟩ := chk_of hf
        refine r_bald (pc := 24) cx 1 rfl h4 dX6_signAt_24 ?_
        refine r_sipush (pc := 25) cx dX6_signAt_25 sp_255 ?_
        refine r_iand (pc := 28) cx dX6_signAt_28 ?_
        refine r_goto (pc := 29) (tgt := 33) cx dX6_signAt_29 (by decide) ?_
        cases hf
        exact r_iret (pc := 33) cx rfl rfl dX6_signAt_33
theorem yv_X6_signAt : YV yX6_signAt cX6_signAt 2 (some .int) 1 := ⟨⟨by decide +kernel, by decide +kernel, by decide +kernel⟩, wd_628, wd_90, wd_627, wd_2⟩
def f_Rd_readWord_L12 (v : T_Rd) (k12_96 : Int32 → Int32 → Option (T_Rd)) : Nat → Int32 → Int32 → Int32 → Option (T_Rd)
  | 0, _, _, _ => none
  | n12 + 1, x1, x2, x3 =>
    (if (Rd_limit v) ≤ x2 then (k12_96 x2 x3) else (bd (f_Rd_signAt ((Rd_tape v), (Rd_filled v), (Rd_fault v), (Rd_faultPlace v), (Rd_words v), (Rd_sorts v), (Rd_parts v), (Rd_wantedPlaces v), (Rd_limit v), x2, (1 : Int32), x3, (Rd_place v), (Rd_toldRules v), (Rd_toldData v)) x2) fun (r7 : Int32) => (if r7 < (97 : Int32) then (k12_96 x2 x3) else (bd (f_Rd_signAt ((Rd_tape v), (Rd_filled v), (Rd_fault v), (Rd_faultPlace v), (Rd_words v), (Rd_sorts v), (Rd_parts v), (Rd_wantedPlaces v), (Rd_limit v), x2, (1 : Int32), x3, (Rd_place v), (Rd_toldRules v), (Rd_toldData v)) x2) fun (r10 : Int32) => (if (122 : Int32) < r10 then (k12_96 x2 x3) else (nm (fun (y13 : Int32) => ((nm (x1 + (1 : Int32)) fun (x15 : Int32) => (nm (x2 + (1 : Int32)) fun (x16 : Int32) => (f_Rd_readWord_L12 v k12_96 n12 x15 x16 y13))) : Option (T_Rd))) fun J14 => (if (6 : Int32) ≤ x1 then (J14 (-1 : Int32)) else (bd (f_Rd_signAt ((Rd_tape v), (Rd_filled v), (Rd_fault v), (Rd_faultPlace v), (Rd_words v), (Rd_sorts v), (Rd_parts v), (Rd_wantedPlaces v), (Rd_limit v), x2, (1 : Int32), x3, (Rd_place v), (Rd_toldRules v), (Rd_toldData v)) x2) fun (r18 : Int32) => (bd (f_Rd_letterBits r18 x1) fun (r20 : Int32) => (J14 (x3 ||| r20)))))))))))
def f_Rd_readWord (v : T_Rd) : Option (T_Rd) :=
  (f_Rd_readWord_L12 v (fun (x4 : Int32) (x5 : Int32) => (some ((Rd_tape v), (Rd_filled v), (Rd_fault v), (Rd_faultPlace v), (Rd_words v), (Rd_sorts v), (Rd_parts v), (Rd_wantedPlaces v), (Rd_limit v), x4, (1 : Int32), x5, (Rd_place v), (Rd_toldRules v), (Rd_toldData v)))) LF (0 : Int32) (Rd_position v) (0 : Int32))
abbrev rm_Rd_readWord : Room := { frames := 1, cells := 0, slots := 0, locals := 21 }
set_option maxRecDepth 100000 in
set_option maxHeartbeats 4000000 in
theorem m_Rd_readWord (l : Launch) (D : va_G) (K : Nat → ClassId) (q : Nat → Nat) (v : T_Rd) {o_v : T_Rd} (hf : f_Rd_readWord v = some o_v) : MV l yX6_readWord cX6_readWord 2 (none) rm_Rd_readWord D K [.ref (q 0)] (cl_Rd K q v) (cl_Rd K q o_v) := by
  refine MV_of (loc0 := [(0, .ref (q 0))]) (by decide +kernel) rfl (Nat.le_of_ble_eq_true rfl) ?_
  intro p e s m args below meth c A cx
  unfold f_Rd_readWord at hf
  refine r_ws (ws' := [((q 0), ob 5 [.ref (q 1), .int (Rd_filled v), .int (Rd_fault v), .int (Rd_faultPlace v), .ref (q 2), .ref (q 3), .ref (q 4), .ref (q 5), .int (Rd_limit v), .int (Rd_position v), .int (Rd_token v), .int (Rd_value v), .int (Rd_place v), .int (Rd_toldRules v), .int (Rd_toldData v)]), ((q 1), aB K 700 (Rd_tape v)), ((q 2), aI K 25 (Rd_words v)), ((q 3), aI K 75 (Rd_sorts v)), ((q 4), aI K 3 (Rd_parts v)), ((q 5), aI K 64 (Rd_wantedPlaces v))]) rfl ?_
  refine r_aload_n (pc := 0) cx dX6_readWord_0 0 rfl ?_
  refine r_iconst (pc := 1) cx dX6_readWord_1 ic_1 ?_
  refine r_putI (pc := 2) (ws' := [((q 0), ob 5 [.ref (q 1), .int (Rd_filled v), .int (Rd_fault v), .int (Rd_faultPlace v), .ref (q 2), .ref (q 3), .ref (q 4), .ref (q 5), .int (Rd_limit v), .int (Rd_position v), .int (1 : Int32), .int (Rd_value v), .int (Rd_place v), .int (Rd_toldRules v), .int (Rd_toldData v)]), ((q 1), aB K 700 (Rd_tape v)), ((q 2), aI K 25 (Rd_words v)), ((q 3), aI K 75 (Rd_sorts v)), ((q 4), aI K 3 (Rd_parts v)), ((q 5), aI K 64 (Rd_wantedPlaces v))]) cx cf_X6 0 10 rfl (by decide) (Nat.le_of_ble_eq_true rfl) rfl pfd_I wd_262 dX6_readWord_2 rfl ?_
  refine r_aload_n (pc := 5) cx dX6_readWord_5 0 rfl ?_
  refine r_iconst (pc := 6) cx dX6_readWord_6 ic_0 ?_
  refine r_putI (pc := 7) (ws' := [((q 0), ob 5 [.ref (q 1), .int (Rd_filled v), .int (Rd_fault v), .int (Rd_faultPlace v), .ref (q 2), .ref (q 3), .ref (q 4), .ref (q 5), .int (Rd_limit v), .int (Rd_position v), .int (1 : Int32), .int (0 : Int32), .int (Rd_place v), .int (Rd_toldRules v), .int (Rd_toldData v)]), ((q 1), aB K 700 (Rd_tape v)), ((q 2), aI K 25 (Rd_words v)), ((q 3), aI K 75 (Rd_sorts v)), ((q 4), aI K 3 (Rd_parts v)), ((q 5), aI K 64 (Rd_wantedPlaces v))]) cx cf_X6 0 11 rfl (by decide) (Nat.le_of_ble_eq_true rfl) rfl pfd_I wd_263 dX6_readWord_7 rfl ?_
  refine r_iconst (pc := 10) cx dX6_readWord_10 ic_0 ?_
  refine r_istore_n (pc := 11) (loc' := [(1, .int (0 : Int32)), (0, .ref (q 0))]) cx dX6_readWord_11 rfl (by decide) rfl ?_
  have hL12 : ∀ (k12_96 : Int32 → Int32 → Option (T_Rd)), (∀ (x4 : Int32) (x5 : Int32), k12_96 x4 x5 = some o_v → WW p l e rm_Rd_readWord s m args below meth c D A 2 0 0 (MQ below (QV D K A (cl_Rd K q o_v)) args s 0 0 A) ([((q 0), ob 5 [.ref (q 1), .int (Rd_filled v), .int (Rd_fault v), .int (Rd_faultPlace v), .ref (q 2), .ref (q 3), .ref (q 4), .ref (q 5), .int (Rd_limit v), .int x4, .int (1 : Int32), .int x5, .int (Rd_place v), .int (Rd_toldRules v), .int (Rd_toldData v)]), ((q 1), aB K 700 (Rd_tape v)), ((q 2), aI K 25 (Rd_words v)), ((q 3), aI K 75 (Rd_sorts v)), ((q 4), aI K 3 (Rd_parts v)), ((q 5), aI K 64 (Rd_wantedPlaces v))]) ([]) ([]) 96) → ∀ (n12 : Nat) (x1 : Int32) (x2 : Int32) (x3 : Int32), f_Rd_readWord_L12 v k12_96 n12 x1 x2 x3 = some o_v → WW p l e rm_Rd_readWord s m args below meth c D A 2 0 0 (MQ below (QV D K A (cl_Rd K q o_v)) args s 0 0 A) ([((q 0), ob 5 [.ref (q 1), .int (Rd_filled v), .int (Rd_fault v), .int (Rd_faultPlace v), .ref (q 2), .ref (q 3), .ref (q 4), .ref (q 5), .int (Rd_limit v), .int x2, .int (1 : Int32), .int x3, .int (Rd_place v), .int (Rd_toldRules v), .int (Rd_toldData v)]), ((q 1), aB K 700 (Rd_tape v)), ((q 2), aI K 25 (Rd_words v)), ((q 3), aI K 75 (Rd_sorts v)), ((q 4), aI K 3 (Rd_parts v)), ((q 5), aI K 64 (Rd_wantedPlaces v))]) ([(0, .ref (q 0)), (1, .int x1)]) ([]) 12 := by
    intro k12_96 hk12_96 n12
    induction n12 with
    | zero => intro x1 x2 x3 hf; exact (nomatch (show (none : Option (T_Rd)) = some _ from hf))
    | succ n12 ih12 =>
      intro x1 x2 x3 hf
      rw [f_Rd_readWord_L12] at hf
      refine r_aload_n (pc := 12) cx dX6_readWord_12 0 rfl ?_
      refine r_get (pc := 13) cx cf_X6 0 9 rfl (by decide) rfl wd_261 dX6_readWord_13 ?_
      refine r_aload_n (pc := 16) cx dX6_readWord_16 0 rfl ?_
      refine r_get (pc := 17) cx cf_X6 0 8 rfl (by decide) rfl wd_260 dX6_readWord_17 ?_
      refine r_icmp_ge (pc := 20) (tgt := 96) cx dX6_readWord_20 (by decide) (fun h6 => ?_) (fun h6 => ?_)
      · have hf := ifp h6 hf
        refine r_loc (loc' := []) [] rfl ?_
        exact hk12_96 _ _ hf
      · have hf := ifn h6 hf
        refine r_aload_n (pc := 23) cx dX6_readWord_23 0 rfl ?_
        refine r_aload_n (pc := 24) cx dX6_readWord_24 0 rfl ?_
        refine r_get (pc := 25) cx cf_X6 0 9 rfl (by decide) rfl wd_261 dX6_readWord_25 ?_
        obtain ⟨r7, hc8, hf⟩ := bd_of hf
        refine r_Vi (pc := 28) (ws' := [((q 0), ob 5 [.ref (q 1), .int (Rd_filled v), .int (Rd_fault v), .int (Rd_faultPlace v), .ref (q 2), .ref (q 3), .ref (q 4), .ref (q 5), .int (Rd_limit v), .int x2, .int (1 : Int32), .int x3, .int (Rd_place v), .int (Rd_toldRules v), .int (Rd_toldData v)]), ((q 1), aB K 700 (Rd_tape v)), ((q 2), aI K 25 (Rd_words v)), ((q 3), aI K 75 (Rd_sorts v)), ((q 4), aI K 3 (Rd_parts v)), ((q 5), aI K 64 (Rd_wantedPlaces v))]) cx [.int x2] [] [0, 1, 2, 3, 4, 5] (m_Rd_signAt l D K q ((Rd_tape v), (Rd_filled v), (Rd_fault v), (Rd_faultPlace v), (Rd_words v), (Rd_sorts v), (Rd_parts v), (Rd_wantedPlaces v), (Rd_limit v), x2, (1 : Int32), x3, (Rd_place v), (Rd_toldRules v), (Rd_toldData v)) x2 hc8) yv_X6_signAt wd_625 ⟨rfl, rfl⟩ (by decide) rfl rfl rfl (by decide) 0 rfl rfl rfl (Nat.le_of_ble_eq_true rfl) dX6_readWord_28 ?_
        refine r_bipush (pc := 31) cx dX6_readWord_31 bp_97 ?_
        refine r_icmp_lt (pc := 33) (tgt := 96) cx dX6_readWord_33 (by decide) (fun h9 => ?_) (fun h9 => ?_)
        · have hf := ifp h9 hf
          refine r_loc (loc' := []) [] rfl ?_
          exact hk12_96 _ _ hf
        · have hf := ifn h9 hf
          refine r_aload_n (pc := 36) cx dX6_readWord_36 0 rfl ?_
          refine r_aload_n (pc := 37) cx dX6_readWord_37 0 rfl ?_
          refine r_get (pc := 38) cx cf_X6 0 9 rfl (by decide) rfl wd_261 dX6_readWord_38 ?_
          obtain ⟨r10, hc11, hf⟩ := bd_of hf
          refine r_Vi (pc := 41) (ws' := [((q 0), ob 5 [.ref (q 1), .int (Rd_filled v), .int (Rd_fault v), .int (Rd_faultPlace v), .ref (q 2), .ref (q 3), .ref (q 4), .ref (q 5), .int (Rd_limit v), .int x2, .int (1 : Int32), .int x3, .int (Rd_place v), .int (Rd_toldRules v), .int (Rd_toldData v)]), ((q 1), aB K 700 (Rd_tape v)), ((q 2), aI K 25 (Rd_words v)), ((q 3), aI K 75 (Rd_sorts v)), ((q 4), aI K 3 (Rd_parts v)), ((q 5), aI K 64 (Rd_wantedPlaces v))]) cx [.int x2] [] [0, 1, 2, 3, 4, 5] (m_Rd_signAt l D K q ((Rd_tape v), (Rd_filled v), (Rd_fault v), (Rd_faultPlace v), (Rd_words v), (Rd_sorts v), (Rd_parts v), (Rd_wantedPlaces v), (Rd_limit v), x2, (1 : Int32), x3, (Rd_place v), (Rd_toldRules v), (Rd_toldData v)) x2 hc11) yv_X6_signAt wd_625 ⟨rfl, rfl⟩ (by decide) rfl rfl rfl (by decide) 0 rfl rfl rfl (Nat.le_of_ble_eq_true rfl) dX6_readWord_41 ?_
          refine r_bipush (pc := 44) cx dX6_readWord_44 bp_122 ?_
          refine r_icmp_gt (pc := 46) (tgt := 96) cx dX6_readWord_46 (by decide) (fun h12 => ?_) (fun h12 => ?_)
          · have hf := ifp h12 hf
            refine r_loc (loc' := []) [] rfl ?_
            exact hk12_96 _ _ hf
          · have hf := ifn h12 hf
            refine r_aload_n (pc := 49) cx dX6_readWord_49 0 rfl ?_
            refine r_iload_n (pc := 50) cx dX6_readWord_50 1 rfl ?_
            refine r_bipush (pc := 51) cx dX6_readWord_51 bp_6 ?_
            obtain ⟨J14, eJ14, hf⟩ := nm_of hf
            have hJ14 : ∀ (y13 : Int32), J14 y13 = some o_v → WW p l e rm_Rd_readWord s m args below meth c D A 2 0 0 (MQ below (QV D K A (cl_Rd K q o_v)) args s 0 0 A) ([((q 0), ob 5 [.ref (q 1), .int (Rd_filled v), .int (Rd_fault v), .int (Rd_faultPlace v), .ref (q 2), .ref (q 3), .ref (q 4), .ref (q 5), .int (Rd_limit v), .int x2, .int (1 : Int32), .int x3, .int (Rd_place v), .int (Rd_toldRules v), .int (Rd_toldData v)]), ((q 1), aB K 700 (Rd_tape v)), ((q 2), aI K 25 (Rd_words v)), ((q 3), aI K 75 (Rd_sorts v)), ((q 4), aI K 3 (Rd_parts v)), ((q 5), aI K 64 (Rd_wantedPlaces v))]) ([(0, .ref (q 0)), (1, .int x1)]) ([.int y13, .ref (q 0)]) 77 := by
              intro y13 hf
              rw [eJ14] at hf
              refine r_putI (pc := 77) (ws' := [((q 0), ob 5 [.ref (q 1), .int (Rd_filled v), .int (Rd_fault v), .int (Rd_faultPlace v), .ref (q 2), .ref (q 3), .ref (q 4), .ref (q 5), .int (Rd_limit v), .int x2, .int (1 : Int32), .int y13, .int (Rd_place v), .int (Rd_toldRules v), .int (Rd_toldData v)]), ((q 1), aB K 700 (Rd_tape v)), ((q 2), aI K 25 (Rd_words v)), ((q 3), aI K 75 (Rd_sorts v)), ((q 4), aI K 3 (Rd_parts v)), ((q 5), aI K 64 (Rd_wantedPlaces v))]) cx cf_X6 0 11 rfl (by decide) (Nat.le_of_ble_eq_true rfl) rfl pfd_I wd_263 dX6_readWord_77 rfl ?_
              obtain ⟨x15, ex15, hf⟩ := nm_of hf
              refine r_iinc (pc := 80) (loc' := [(1, .int x15), (0, .ref (q 0))]) (v := x15) cx dX6_readWord_80 1 rfl ((congrArg (fun z => x1 + z) ic_1).trans ex15.symm) (by decide) rfl ?_
              refine r_aload_n (pc := 83) cx dX6_readWord_83 1 rfl ?_
              refine r_dup (pc := 84) cx dX6_readWord_84 rfl ?_
              refine r_get (pc := 85) cx cf_X6 0 9 rfl (by decide) rfl wd_261 dX6_readWord_85 ?_
              refine r_iconst (pc := 88) cx dX6_readWord_88 ic_1 ?_
              refine r_iadd (pc := 89) cx dX6_readWord_89 ?_
              obtain ⟨x16, ex16, hf⟩ := nm_of hf
              refine r_nm ex16 ?_
              refine r_putI (pc := 90) (ws' := [((q 0), ob 5 [.ref (q 1), .int (Rd_filled v), .int (Rd_fault v), .int (Rd_faultPlace v), .ref (q 2), .ref (q 3), .ref (q 4), .ref (q 5), .int (Rd_limit v), .int x16, .int (1 : Int32), .int y13, .int (Rd_place v), .int (Rd_toldRules v), .int (Rd_toldData v)]), ((q 1), aB K 700 (Rd_tape v)), ((q 2), aI K 25 (Rd_words v)), ((q 3), aI K 75 (Rd_sorts v)), ((q 4), aI K 3 (Rd_parts v)), ((q 5), aI K 64 (Rd_wantedPlaces v))]) cx cf_X6 0 9 rfl (by decide) (Nat.le_of_ble_eq_true rfl) rfl pfd_I wd_261 dX6_readWord_90 rfl ?_
              refine r_goto (pc := 93) (tgt := 12) cx dX6_readWord_93 (by decide) ?_
              refine r_loc (loc' := [(0, .ref (q 0)), (1, .int x15)]) [1, 0] rfl ?_
              exact ih12 _ _ _ hf
            refine r_icmp_ge (pc := 53) (tgt := 76) cx dX6_readWord_53 (by decide) (fun h17 => ?_) (fun h17 => ?_)
            · have hf := ifp h17 hf
              refine r_iconst (pc := 76) cx dX6_readWord_76 ic_m1 ?_
              exact hJ14 _ hf
            · have hf := ifn h17 hf
              refine r_aload_n (pc := 56) cx dX6_readWord_56 0 rfl ?_
              refine r_get (pc := 57) cx cf_X6 0 11 rfl (by decide) rfl wd_263 dX6_readWord_57 ?_
              refine r_aload_n (pc := 60) cx dX6_readWord_60 0 rfl ?_
              refine r_aload_n (pc := 61) cx dX6_readWord_61 0 rfl ?_
              refine r_get (pc := 62) cx cf_X6 0 9 rfl (by decide) rfl wd_261 dX6_readWord_62 ?_
              obtain ⟨r18, hc19, hf⟩ := bd_of hf
              refine r_Vi (pc := 65) (ws' := [((q 0), ob 5 [.ref (q 1), .int (Rd_filled v), .int (Rd_fault v), .int (Rd_faultPlace v), .ref (q 2), .ref (q 3), .ref (q 4), .ref (q 5), .int (Rd_limit v), .int x2, .int (1 : Int32), .int x3, .int (Rd_place v), .int (Rd_toldRules v), .int (Rd_toldData v)]), ((q 1), aB K 700 (Rd_tape v)), ((q 2), aI K 25 (Rd_words v)), ((q 3), aI K 75 (Rd_sorts v)), ((q 4), aI K 3 (Rd_parts v)), ((q 5), aI K 64 (Rd_wantedPlaces v))]) cx [.int x2] [.int x3, .ref (q 0)] [0, 1, 2, 3, 4, 5] (m_Rd_signAt l D K q ((Rd_tape v), (Rd_filled v), (Rd_fault v), (Rd_faultPlace v), (Rd_words v), (Rd_sorts v), (Rd_parts v), (Rd_wantedPlaces v), (Rd_limit v), x2, (1 : Int32), x3, (Rd_place v), (Rd_toldRules v), (Rd_toldData v)) x2 hc19) yv_X6_signAt wd_625 ⟨rfl, rfl⟩ (by decide) rfl rfl rfl (by decide) 0 rfl rfl rfl (Nat.le_of_ble_eq_true rfl) dX6_readWord_65 ?_
              refine r_iload_n (pc := 68) cx dX6_readWord_68 1 rfl ?_
              obtain ⟨r20, hc21, hf⟩ := bd_of hf
              refine r_Si (pc := 69) (ws' := [((q 0), ob 5 [.ref (q 1), .int (Rd_filled v), .int (Rd_fault v), .int (Rd_faultPlace v), .ref (q 2), .ref (q 3), .ref (q 4), .ref (q 5), .int (Rd_limit v), .int x2, .int (1 : Int32), .int x3, .int (Rd_place v), .int (Rd_toldRules v), .int (Rd_toldData v)]), ((q 1), aB K 700 (Rd_tape v)), ((q 2), aI K 25 (Rd_words v)), ((q 3), aI K 75 (Rd_sorts v)), ((q 4), aI K 3 (Rd_parts v)), ((q 5), aI K 64 (Rd_wantedPlaces v))]) cx [.int r18, .int x1] [.int x3, .ref (q 0)] [] (m_Rd_letterBits l D K r18 x1 hc21) ys_X6_letterBits wd_244 ⟨rfl, rfl⟩ (by decide) rfl rfl rfl (by decide) rfl (Nat.le_of_ble_eq_true rfl) dX6_readWord_69 ?_
              refine r_ior (pc := 72) cx dX6_readWord_72 ?_
              refine r_goto (pc := 73) (tgt := 77) cx dX6_readWord_73 (by decide) ?_
              exact hJ14 _ hf
  refine r_loc (loc' := [(0, .ref (q 0)), (1, .int (0 : Int32))]) [1, 0] rfl ?_
  refine hL12 _ (fun x4 x5 hf => ?_) _ _ _ _ hf
  cases hf
  exact r_vret (pc := 96) cx rfl dX6_readWord_96
theorem yv_X6_readWord : YV yX6_readWord cX6_readWord 2 (none) 0 := ⟨⟨by decide +kernel, by decide +kernel, by decide +kernel⟩, wd_632, wd_90, wd_631, wd_3⟩
def f_Rd_readNumber_L10 (v : T_Rd) (k10_88 : Int32 → Int32 → Option (T_Rd)) : Nat → Int32 → Int32 → Option (T_Rd)
  | 0, _, _ => none
  | n10 + 1, x1, x2 =>
    (if (Rd_limit v) ≤ x1 then (k10_88 x1 x2) else (bd (f_Rd_signAt ((Rd_tape v), (Rd_filled v), (Rd_fault v), (Rd_faultPlace v), (Rd_words v), (Rd_sorts v), (Rd_parts v), (Rd_wantedPlaces v), (Rd_limit v), x1, (2 : Int32), x2, (Rd_place v), (Rd_toldRules v), (Rd_toldData v)) x1) fun (r6 : Int32) => (if r6 < (48 : Int32) then (k10_88 x1 x2) else (bd (f_Rd_signAt ((Rd_tape v), (Rd_filled v), (Rd_fault v), (Rd_faultPlace v), (Rd_words v), (Rd_sorts v), (Rd_parts v), (Rd_wantedPlaces v), (Rd_limit v), x1, (2 : Int32), x2, (Rd_place v), (Rd_toldRules v), (Rd_toldData v)) x1) fun (r9 : Int32) => (if (57 : Int32) < r9 then (k10_88 x1 x2) else (bd (f_Rd_signAt ((Rd_tape v), (Rd_filled v), (Rd_fault v), (Rd_faultPlace v), (Rd_words v), (Rd_sorts v), (Rd_parts v), (Rd_wantedPlaces v), (Rd_limit v), x1, (2 : Int32), x2, (Rd_place v), (Rd_toldRules v), (Rd_toldData v)) x1) fun (r12 : Int32) => (nm (if (100000 : Int32) < (((x2 * (10 : Int32)) + r12) - (48 : Int32)) then (100000 : Int32) else (((x2 * (10 : Int32)) + r12) - (48 : Int32))) fun (x14 : Int32) => (nm (x1 + (1 : Int32)) fun (x15 : Int32) => (f_Rd_readNumber_L10 v k10_88 n10 x15 x14)))))))))
def f_Rd_readNumber (v : T_Rd) : Option (T_Rd) :=
  (f_Rd_readNumber_L10 v (fun (x3 : Int32) (x4 : Int32) => (some ((Rd_tape v), (Rd_filled v), (Rd_fault v), (Rd_faultPlace v), (Rd_words v), (Rd_sorts v), (Rd_parts v), (Rd_wantedPlaces v), (Rd_limit v), x3, (2 : Int32), x4, (Rd_place v), (Rd_toldRules v), (Rd_toldData v)))) LF (Rd_position v) (0 : Int32))
abbrev rm_Rd_readNumber : Room := { frames := 1, cells := 0, slots := 0, locals := 23 }
set_option maxRecDepth 100000 in
set_option maxHeartbeats 4000000 in
theorem m_Rd_readNumber (l : Launch) (D : va_G) (K : Nat → ClassId) (q : Nat → Nat) (v : T_Rd) {o_v : T_Rd} (hf : f_Rd_readNumber v = some o_v) : MV l yX6_readNumber cX6_readNumber 1 (none) rm_Rd_readNumber D K [.ref (q 0)] (cl_Rd K q v) (cl_Rd K q o_v) := by
  refine MV_of (loc0 := [(0, .ref (q 0))]) (by decide +kernel) rfl (Nat.le_of_ble_eq_true rfl) ?_
  intro p e s m args below meth c A cx
  unfold f_Rd_readNumber at hf
  refine r_ws (ws' := [((q 0), ob 5 [.ref (q 1), .int (Rd_filled v), .int (Rd_fault v), .int (Rd_faultPlace v), .ref (q 2), .ref (q 3), .ref (q 4), .ref (q 5), .int (Rd_limit v), .int (Rd_position v), .int (Rd_token v), .int (Rd_value v), .int (Rd_place v), .int (Rd_toldRules v), .int (Rd_toldData v)]), ((q 1), aB K 700 (Rd_tape v)), ((q 2), aI K 25 (Rd_words v)), ((q 3), aI K 75 (Rd_sorts v)), ((q 4), aI K 3 (Rd_parts v)), ((q 5), aI K 64 (Rd_wantedPlaces v))]) rfl ?_
  refine r_aload_n (pc := 0) cx dX6_readNumber_0 0 rfl ?_
  refine r_iconst (pc := 1) cx dX6_readNumber_1 ic_2 ?_
  refine r_putI (pc := 2) (ws' := [((q 0), ob 5 [.ref (q 1), .int (Rd_filled v), .int (Rd_fault v), .int (Rd_faultPlace v), .ref (q 2), .ref (q 3), .ref (q 4), .ref (q 5), .int (Rd_limit v), .int (Rd_position v), .int (2 : Int32), .int (Rd_value v), .int (Rd_place v), .int (Rd_toldRules v), .int (Rd_toldData v)]), ((q 1), aB K 700 (Rd_tape v)), ((q 2), aI K 25 (Rd_words v)), ((q 3), aI K 75 (Rd_sorts v)), ((q 4), aI K 3 (Rd_parts v)), ((q 5), aI K 64 (Rd_wantedPlaces v))]) cx cf_X6 0 10 rfl (by decide) (Nat.le_of_ble_eq_true rfl) rfl pfd_I wd_262 dX6_readNumber_2 rfl ?_
  refine r_aload_n (pc := 5) cx dX6_readNumber_5 0 rfl ?_
  refine r_iconst (pc := 6) cx dX6_readNumber_6 ic_0 ?_
  refine r_putI (pc := 7) (ws' := [((q 0), ob 5 [.ref (q 1), .int (Rd_filled v), .int (Rd_fault v), .int (Rd_faultPlace v), .ref (q 2), .ref (q 3), .ref (q 4), .ref (q 5), .int (Rd_limit v), .int (Rd_position v), .int (2 : Int32), .int (0 : Int32), .int (Rd_place v), .int (Rd_toldRules v), .int (Rd_toldData v)]), ((q 1), aB K 700 (Rd_tape v)), ((q 2), aI K 25 (Rd_words v)), ((q 3), aI K 75 (Rd_sorts v)), ((q 4), aI K 3 (Rd_parts v)), ((q 5), aI K 64 (Rd_wantedPlaces v))]) cx cf_X6 0 11 rfl (by decide) (Nat.le_of_ble_eq_true rfl) rfl pfd_I wd_263 dX6_readNumber_7 rfl ?_
  have hL10 : ∀ (k10_88 : Int32 → Int32 → Option (T_Rd)), (∀ (x3 : Int32) (x4 : Int32), k10_88 x3 x4 = some o_v → WW p l e rm_Rd_readNumber s m args below meth c D A 1 0 0 (MQ below (QV D K A (cl_Rd K q o_v)) args s 0 0 A) ([((q 0), ob 5 [.ref (q 1), .int (Rd_filled v), .int (Rd_fault v), .int (Rd_faultPlace v), .ref (q 2), .ref (q 3), .ref (q 4), .ref (q 5), .int (Rd_limit v), .int x3, .int (2 : Int32), .int x4, .int (Rd_place v), .int (Rd_toldRules v), .int (Rd_toldData v)]), ((q 1), aB K 700 (Rd_tape v)), ((q 2), aI K 25 (Rd_words v)), ((q 3), aI K 75 (Rd_sorts v)), ((q 4), aI K 3 (Rd_parts v)), ((q 5), aI K 64 (Rd_wantedPlaces v))]) ([]) ([]) 88) → ∀ (n10 : Nat) (x1 : Int32) (x2 : Int32), f_Rd_readNumber_L10 v k10_88 n10 x1 x2 = some o_v → WW p l e rm_Rd_readNumber s m args below meth c D A 1 0 0 (MQ below (QV D K A (cl_Rd K q o_v)) args s 0 0 A) ([((q 0), ob 5 [.ref (q 1), .int (Rd_filled v), .int (Rd_fault v), .int (Rd_faultPlace v), .ref (q 2), .ref (q 3), .ref (q 4), .ref (q 5), .int (Rd_limit v), .int x1, .int (2 : Int32), .int x2, .int (Rd_place v), .int (Rd_toldRules v), .int (Rd_toldData v)]), ((q 1), aB K 700 (Rd_tape v)), ((q 2), aI K 25 (Rd_words v)), ((q 3), aI K 75 (Rd_sorts v)), ((q 4), aI K 3 (Rd_parts v)), ((q 5), aI K 64 (Rd_wantedPlaces v))]) ([(0, .ref (q 0))]) ([]) 10 := by
    intro k10_88 hk10_88 n10
    induction n10 with
    | zero => intro x1 x2 hf; exact (nomatch (show (none : Option (T_Rd)) = some _ from hf))
    | succ n10 ih10 =>
      intro x1 x2 hf
      rw [f_Rd_readNumber_L10] at hf
      refine r_aload_n (pc := 10) cx dX6_readNumber_10 0 rfl ?_
      refine r_get (pc := 11) cx cf_X6 0 9 rfl (by decide) rfl wd_261 dX6_readNumber_11 ?_
      refine r_aload_n (pc := 14) cx dX6_readNumber_14 0 rfl ?_
      refine r_get (pc := 15) cx cf_X6 0 8 rfl (by decide) rfl wd_260 dX6_readNumber_15 ?_
      refine r_icmp_ge (pc := 18) (tgt := 88) cx dX6_readNumber_18 (by decide) (fun h5 => ?_) (fun h5 => ?_)
      · have hf := ifp h5 hf
        refine r_loc (loc' := []) [] rfl ?_
        exact hk10_88 _ _ hf
      · have hf := ifn h5 hf
        refine r_aload_n (pc := 21) cx dX6_readNumber_21 0 rfl ?_
        refine r_aload_n (pc := 22) cx dX6_readNumber_22 0 rfl ?_
        refine r_get (pc := 23) cx cf_X6 0 9 rfl (by decide) rfl wd_261 dX6_readNumber_23 ?_
        obtain ⟨r6, hc7, hf⟩ := bd_of hf
        refine r_Vi (pc := 26) (ws' := [((q 0), ob 5 [.ref (q 1), .int (Rd_filled v), .int (Rd_fault v), .int (Rd_faultPlace v), .ref (q 2), .ref (q 3), .ref (q 4), .ref (q 5), .int (Rd_limit v), .int x1, .int (2 : Int32), .int x2, .int (Rd_place v), .int (Rd_toldRules v), .int (Rd_toldData v)]), ((q 1), aB K 700 (Rd_tape v)), ((q 2), aI K 25 (Rd_words v)), ((q 3), aI K 75 (Rd_sorts v)), ((q 4), aI K 3 (Rd_parts v)), ((q 5), aI K 64 (Rd_wantedPlaces v))]) cx [.int x1] [] [0, 1, 2, 3, 4, 5] (m_Rd_signAt l D K q ((Rd_tape v), (Rd_filled v), (Rd_fault v), (Rd_faultPlace v), (Rd_words v), (Rd_sorts v), (Rd_parts v), (Rd_wantedPlaces v), (Rd_limit v), x1, (2 : Int32), x2, (Rd_place v), (Rd_toldRules v), (Rd_toldData v)) x1 hc7) yv_X6_signAt wd_625 ⟨rfl, rfl⟩ (by decide) rfl rfl rfl (by decide) 0 rfl rfl rfl (Nat.le_of_ble_eq_true rfl) dX6_readNumber_26 ?_
        refine r_bipush (pc := 29) cx dX6_readNumber_29 bp_48 ?_
        refine r_icmp_lt (pc := 31) (tgt := 88) cx dX6_readNumber_31 (by decide) (fun h8 => ?_) (fun h8 => ?_)
        · have hf := ifp h8 hf
          refine r_loc (loc' := []) [] rfl ?_
          exact hk10_88 _ _ hf
        · have hf := ifn h8 hf
          refine r_aload_n (pc := 34) cx dX6_readNumber_34 0 rfl ?_
          refine r_aload_n (pc := 35) cx dX6_readNumber_35 0 rfl ?_
          refine r_get (pc := 36) cx cf_X6 0 9 rfl (by decide) rfl wd_261 dX6_readNumber_36 ?_
          obtain ⟨r9, hc10, hf⟩ := bd_of hf
          refine r_Vi (pc := 39) (ws' := [((q 0), ob 5 [.ref (q 1), .int (Rd_filled v), .int (Rd_fault v), .int (Rd_faultPlace v), .ref (q 2), .ref (q 3), .ref (q 4), .ref (q 5), .int (Rd_limit v), .int x1, .int (2 : Int32), .int x2, .int (Rd_place v), .int (Rd_toldRules v), .int (Rd_toldData v)]), ((q 1), aB K 700 (Rd_tape v)), ((q 2), aI K 25 (Rd_words v)), ((q 3), aI K 75 (Rd_sorts v)), ((q 4), aI K 3 (Rd_parts v)), ((q 5), aI K 64 (Rd_wantedPlaces v))]) cx [.int x1] [] [0, 1, 2, 3, 4, 5] (m_Rd_signAt l D K q ((Rd_tape v), (Rd_filled v), (Rd_fault v), (Rd_faultPlace v), (Rd_words v), (Rd_sorts v), (Rd_parts v), (Rd_wantedPlaces v), (Rd_limit v), x1, (2 : Int32), x2, (Rd_place v), (Rd_toldRules v), (Rd_toldData v)) x1 hc10) yv_X6_signAt wd_625 ⟨rfl, rfl⟩ (by decide) rfl rfl rfl (by decide) 0 rfl rfl rfl (Nat.le_of_ble_eq_true rfl) dX6_readNumber_39 ?_
          refine r_bipush (pc := 42) cx dX6_readNumber_42 bp_57 ?_
          refine r_icmp_gt (pc := 44) (tgt := 88) cx dX6_readNumber_44 (by decide) (fun h11 => ?_) (fun h11 => ?_)
          · have hf := ifp h11 hf
            refine r_loc (loc' := []) [] rfl ?_
            exact hk10_88 _ _ hf
          · have hf := ifn h11 hf
            refine r_aload_n (pc := 47) cx dX6_readNumber_47 0 rfl ?_
            refine r_aload_n (pc := 48) cx dX6_readNumber_48 0 rfl ?_
            refine r_get (pc := 49) cx cf_X6 0 11 rfl (by decide) rfl wd_263 dX6_readNumber_49 ?_
            refine r_bipush (pc := 52) cx dX6_readNumber_52 bp_10 ?_
            refine r_imul (pc := 54) cx dX6_readNumber_54 ?_
            refine r_aload_n (pc := 55) cx dX6_readNumber_55 0 rfl ?_
            refine r_aload_n (pc := 56) cx dX6_readNumber_56 0 rfl ?_
            refine r_get (pc := 57) cx cf_X6 0 9 rfl (by decide) rfl wd_261 dX6_readNumber_57 ?_
            obtain ⟨r12, hc13, hf⟩ := bd_of hf
            refine r_Vi (pc := 60) (ws' := [((q 0), ob 5 [.ref (q 1), .int (Rd_filled v), .int (Rd_fault v), .int (Rd_faultPlace v), .ref (q 2), .ref (q 3), .ref (q 4), .ref (q 5), .int (Rd_limit v), .int x1, .int (2 : Int32), .int x2, .int (Rd_place v), .int (Rd_toldRules v), .int (Rd_toldData v)]), ((q 1), aB K 700 (Rd_tape v)), ((q 2), aI K 25 (Rd_words v)), ((q 3), aI K 75 (Rd_sorts v)), ((q 4), aI K 3 (Rd_parts v)), ((q 5), aI K 64 (Rd_wantedPlaces v))]) cx [.int x1] [.int (x2 * (10 : Int32)), .ref (q 0)] [0, 1, 2, 3, 4, 5] (m_Rd_signAt l D K q ((Rd_tape v), (Rd_filled v), (Rd_fault v), (Rd_faultPlace v), (Rd_words v), (Rd_sorts v), (Rd_parts v), (Rd_wantedPlaces v), (Rd_limit v), x1, (2 : Int32), x2, (Rd_place v), (Rd_toldRules v), (Rd_toldData v)) x1 hc13) yv_X6_signAt wd_625 ⟨rfl, rfl⟩ (by decide) rfl rfl rfl (by decide) 0 rfl rfl rfl (Nat.le_of_ble_eq_true rfl) dX6_readNumber_60 ?_
            refine r_iadd (pc := 63) cx dX6_readNumber_63 ?_
            refine r_bipush (pc := 64) cx dX6_readNumber_64 bp_48 ?_
            refine r_isub (pc := 66) cx dX6_readNumber_66 ?_
            refine r_ldc (pc := 67) cx dX6_readNumber_67 wd_637 ?_
            refine r_mmin (pc := 69) cx wd_638 ys_J9_min_7cf53 (by decide) (Nat.le_of_ble_eq_true rfl) dX6_readNumber_69 ?_
            obtain ⟨x14, ex14, hf⟩ := nm_of hf
            refine r_nm ex14 ?_
            refine r_putI (pc := 72) (ws' := [((q 0), ob 5 [.ref (q 1), .int (Rd_filled v), .int (Rd_fault v), .int (Rd_faultPlace v), .ref (q 2), .ref (q 3), .ref (q 4), .ref (q 5), .int (Rd_limit v), .int x1, .int (2 : Int32), .int x14, .int (Rd_place v), .int (Rd_toldRules v), .int (Rd_toldData v)]), ((q 1), aB K 700 (Rd_tape v)), ((q 2), aI K 25 (Rd_words v)), ((q 3), aI K 75 (Rd_sorts v)), ((q 4), aI K 3 (Rd_parts v)), ((q 5), aI K 64 (Rd_wantedPlaces v))]) cx cf_X6 0 11 rfl (by decide) (Nat.le_of_ble_eq_true rfl) rfl pfd_I wd_263 dX6_readNumber_72 rfl ?_
            refine r_aload_n (pc := 75) cx dX6_readNumber_75 0 rfl ?_
            refine r_dup (pc := 76) cx dX6_readNumber_76 rfl ?_
            refine r_get (pc := 77) cx cf_X6 0 9 rfl (by decide) rfl wd_261 dX6_readNumber_77 ?_
            refine r_iconst (pc := 80) cx dX6_readNumber_80 ic_1 ?_
            refine r_iadd (pc := 81) cx dX6_readNumber_81 ?_
            obtain ⟨x15, ex15, hf⟩ := nm_of hf
            refine r_nm ex15 ?_
            refine r_putI (pc := 82) (ws' := [((q 0), ob 5 [.ref (q 1), .int (Rd_filled v), .int (Rd_fault v), .int (Rd_faultPlace v), .ref (q 2), .ref (q 3), .ref (q 4), .ref (q 5), .int (Rd_limit v), .int x15, .int (2 : Int32), .int x14, .int (Rd_place v), .int (Rd_toldRules v), .int (Rd_toldData v)]), ((q 1), aB K 700 (Rd_tape v)), ((q 2), aI K 25 (Rd_words v)), ((q 3), aI K 75 (Rd_sorts v)), ((q 4), aI K 3 (Rd_parts v)), ((q 5), aI K 64 (Rd_wantedPlaces v))]) cx cf_X6 0 9 rfl (by decide) (Nat.le_of_ble_eq_true rfl) rfl pfd_I wd_261 dX6_readNumber_82 rfl ?_
            refine r_goto (pc := 85) (tgt := 10) cx dX6_readNumber_85 (by decide) ?_
            exact ih10 _ _ hf
  refine hL10 _ (fun x3 x4 hf => ?_) _ _ _ hf
  cases hf
  exact r_vret (pc := 88) cx rfl dX6_readNumber_88
theorem yv_X6_readNumber : YV yX6_readNumber cX6_readNumber 1 (none) 0 := ⟨⟨by decide +kernel, by decide +kernel, by decide +kernel⟩, wd_636, wd_90, wd_635, wd_4⟩
def f_Rd_advance_L0 (v : T_Rd) (k0_50 : Int32 → Option (T_Rd)) : Nat → Int32 → Option (T_Rd)
  | 0, _ => none
  | n0 + 1, x1 =>
    (if (Rd_limit v) ≤ x1 then (k0_50 x1) else (bd (f_Rd_signAt ((Rd_tape v), (Rd_filled v), (Rd_fault v), (Rd_faultPlace v), (Rd_words v), (Rd_sorts v), (Rd_parts v), (Rd_wantedPlaces v), (Rd_limit v), x1, (Rd_token v), (Rd_value v), (Rd_place v), (Rd_toldRules v), (Rd_toldData v)) x1) fun (r4 : Int32) => (if r4 = (32 : Int32) then (nm (x1 + (1 : Int32)) fun (x7 : Int32) => (f_Rd_advance_L0 v k0_50 n0 x7)) else (bd (f_Rd_signAt ((Rd_tape v), (Rd_filled v), (Rd_fault v), (Rd_faultPlace v), (Rd_words v), (Rd_sorts v), (Rd_parts v), (Rd_wantedPlaces v), (Rd_limit v), x1, (Rd_token v), (Rd_value v), (Rd_place v), (Rd_toldRules v), (Rd_toldData v)) x1) fun (r8 : Int32) => (if r8 = (10 : Int32) then (nm (x1 + (1 : Int32)) fun (x11 : Int32) => (f_Rd_advance_L0 v k0_50 n0 x11)) else (k0_50 x1))))))
def f_Rd_advance (v : T_Rd) : Option (T_Rd) :=
  (f_Rd_advance_L0 v (fun (x2 : Int32) => (bd (f_Rd_signAt ((Rd_tape v), (Rd_filled v), (Rd_fault v), (Rd_faultPlace v), (Rd_words v), (Rd_sorts v), (Rd_parts v), (Rd_wantedPlaces v), (Rd_limit v), x2, (Rd_token v), (Rd_value v), x2, (Rd_toldRules v), (Rd_toldData v)) x2) fun (r12 : Int32) => (if r12 = (-1 : Int32) then (some ((Rd_tape v), (Rd_filled v), (Rd_fault v), (Rd_faultPlace v), (Rd_words v), (Rd_sorts v), (Rd_parts v), (Rd_wantedPlaces v), (Rd_limit v), x2, (0 : Int32), (Rd_value v), x2, (Rd_toldRules v), (Rd_toldData v))) else (if r12 < (97 : Int32) then (if r12 < (48 : Int32) then (nm (fun (y17 : Int32) => ((nm (x2 + (1 : Int32)) fun (x19 : Int32) => (some ((Rd_tape v), (Rd_filled v), (Rd_fault v), (Rd_faultPlace v), (Rd_words v), (Rd_sorts v), (Rd_parts v), (Rd_wantedPlaces v), (Rd_limit v), x19, y17, (Rd_value v), x2, (Rd_toldRules v), (Rd_toldData v)))) : Option (T_Rd))) fun J18 => (if r12 = (59 : Int32) then (J18 (3 : Int32)) else (J18 (4 : Int32)))) else (if (57 : Int32) < r12 then (nm (fun (y22 : Int32) => ((nm (x2 + (1 : Int32)) fun (x24 : Int32) => (some ((Rd_tape v), (Rd_filled v), (Rd_fault v), (Rd_faultPlace v), (Rd_words v), (Rd_sorts v), (Rd_parts v), (Rd_wantedPlaces v), (Rd_limit v), x24, y22, (Rd_value v), x2, (Rd_toldRules v), (Rd_toldData v)))) : Option (T_Rd))) fun J23 => (if r12 = (59 : Int32) then (J23 (3 : Int32)) else (J23 (4 : Int32)))) else (bd (f_Rd_readNumber ((Rd_tape v), (Rd_filled v), (Rd_fault v), (Rd_faultPlace v), (Rd_words v), (Rd_sorts v), (Rd_parts v), (Rd_wantedPlaces v), (Rd_limit v), x2, (Rd_token v), (Rd_value v), x2, (Rd_toldRules v), (Rd_toldData v))) fun (v26 : T_Rd) => (some v26)))) else (if (122 : Int32) < r12 then (if r12 < (48 : Int32) then (nm (fun (y30 : Int32) => ((nm (x2 + (1 : Int32)) fun (x32 : Int32) => (some ((Rd_tape v), (Rd_filled v), (Rd_fault v), (Rd_faultPlace v), (Rd_words v), (Rd_sorts v), (Rd_parts v), (Rd_wantedPlaces v), (Rd_limit v), x32, y30, (Rd_value v), x2, (Rd_toldRules v), (Rd_toldData v)))) : Option (T_Rd))) fun J31 => (if r12 = (59 : Int32) then (J31 (3 : Int32)) else (J31 (4 : Int32)))) else (if (57 : Int32) < r12 then (nm (fun (y35 : Int32) => ((nm (x2 + (1 : Int32)) fun (x37 : Int32) => (some ((Rd_tape v), (Rd_filled v), (Rd_fault v), (Rd_faultPlace v), (Rd_words v), (Rd_sorts v), (Rd_parts v), (Rd_wantedPlaces v), (Rd_limit v), x37, y35, (Rd_value v), x2, (Rd_toldRules v), (Rd_toldData v)))) : Option (T_Rd))) fun J36 => (if r12 = (59 : Int32) then (J36 (3 : Int32)) else (J36 (4 : Int32)))) else (bd (f_Rd_readNumber ((Rd_tape v), (Rd_filled v), (Rd_fault v), (Rd_faultPlace v), (Rd_words v), (Rd_sorts v), (Rd_parts v), (Rd_wantedPlaces v), (Rd_limit v), x2, (Rd_token v), (Rd_value v), x2, (Rd_toldRules v), (Rd_toldData v))) fun (v39 : T_Rd) => (some v39)))) else (bd (f_Rd_readWord ((Rd_tape v), (Rd_filled v), (Rd_fault v), (Rd_faultPlace v), (Rd_words v), (Rd_sorts v), (Rd_parts v), (Rd_wantedPlaces v), (Rd_limit v), x2, (Rd_token v), (Rd_value v), x2, (Rd_toldRules v), (Rd_toldData v))) fun (v41 : T_Rd) => (some v41))))))) LF (Rd_position v))
abbrev rm_Rd_advance : Room := { frames := 2, cells := 0, slots := 0, locals := 43 }
set_option maxRecDepth 100000 in
set_option maxHeartbeats 4000000 in
theorem m_Rd_advance (l : Launch) (D : va_G) (K : Nat → ClassId) (q : Nat → Nat) (v : T_Rd) {o_v : T_Rd} (hf : f_Rd_advance v = some o_v) : MV l yX6_advance cX6_advance 2 (none) rm_Rd_advance D K [.ref (q 0)] (cl_Rd K q v) (cl_Rd K q o_v) := by
  refine MV_of (loc0 := [(0, .ref (q 0))]) (by decide +kernel) rfl (Nat.le_of_ble_eq_true rfl) ?_
  intro p e s m args below meth c A cx
  unfold f_Rd_advance at hf
  refine r_ws (ws' := [((q 0), ob 5 [.ref (q 1), .int (Rd_filled v), .int (Rd_fault v), .int (Rd_faultPlace v), .ref (q 2), .ref (q 3), .ref (q 4), .ref (q 5), .int (Rd_limit v), .int (Rd_position v), .int (Rd_token v), .int (Rd_value v), .int (Rd_place v), .int (Rd_toldRules v), .int (Rd_toldData v)]), ((q 1), aB K 700 (Rd_tape v)), ((q 2), aI K 25 (Rd_words v)), ((q 3), aI K 75 (Rd_sorts v)), ((q 4), aI K 3 (Rd_parts v)), ((q 5), aI K 64 (Rd_wantedPlaces v))]) rfl ?_
  have hL0 : ∀ (k0_50 : Int32 → Option (T_Rd)), (∀ (x2 : Int32), k0_50 x2 = some o_v → WW p l e rm_Rd_advance s m args below meth c D A 2 0 0 (MQ below (QV D K A (cl_Rd K q o_v)) args s 0 0 A) ([((q 0), ob 5 [.ref (q 1), .int (Rd_filled v), .int (Rd_fault v), .int (Rd_faultPlace v), .ref (q 2), .ref (q 3), .ref (q 4), .ref (q 5), .int (Rd_limit v), .int x2, .int (Rd_token v), .int (Rd_value v), .int (Rd_place v), .int (Rd_toldRules v), .int (Rd_toldData v)]), ((q 1), aB K 700 (Rd_tape v)), ((q 2), aI K 25 (Rd_words v)), ((q 3), aI K 75 (Rd_sorts v)), ((q 4), aI K 3 (Rd_parts v)), ((q 5), aI K 64 (Rd_wantedPlaces v))]) ([(0, .ref (q 0))]) ([]) 50) → ∀ (n0 : Nat) (x1 : Int32), f_Rd_advance_L0 v k0_50 n0 x1 = some o_v → WW p l e rm_Rd_advance s m args below meth c D A 2 0 0 (MQ below (QV D K A (cl_Rd K q o_v)) args s 0 0 A) ([((q 0), ob 5 [.ref (q 1), .int (Rd_filled v), .int (Rd_fault v), .int (Rd_faultPlace v), .ref (q 2), .ref (q 3), .ref (q 4), .ref (q 5), .int (Rd_limit v), .int x1, .int (Rd_token v), .int (Rd_value v), .int (Rd_place v), .int (Rd_toldRules v), .int (Rd_toldData v)]), ((q 1), aB K 700 (Rd_tape v)), ((q 2), aI K 25 (Rd_words v)), ((q 3), aI K 75 (Rd_sorts v)), ((q 4), aI K 3 (Rd_parts v)), ((q 5), aI K 64 (Rd_wantedPlaces v))]) ([(0, .ref (q 0))]) ([]) 0 := by
    intro k0_50 hk0_50 n0
    induction n0 with
    | zero => intro x1 hf; exact (nomatch (show (none : Option (T_Rd)) = some _ from hf))
    | succ n0 ih0 =>
      intro x1 hf
      rw [f_Rd_advance_L0] at hf
      refine r_aload_n (pc := 0) cx dX6_advance_0 0 rfl ?_
      refine r_get (pc := 1) cx cf_X6 0 9 rfl (by decide) rfl wd_261 dX6_advance_1 ?_
      refine r_aload_n (pc := 4) cx dX6_advance_4 0 rfl ?_
      refine r_get (pc := 5) cx cf_X6 0 8 rfl (by decide) rfl wd_260 dX6_advance_5 ?_
      refine r_icmp_ge (pc := 8) (tgt := 50) cx dX6_advance_8 (by decide) (fun h3 => ?_) (fun h3 => ?_)
      · have hf := ifp h3 hf
        exact hk0_50 _ hf
      · have hf := ifn h3 hf
        refine r_aload_n (pc := 11) cx dX6_advance_11 0 rfl ?_
        refine r_aload_n (pc := 12) cx dX6_advance_12 0 rfl ?_
        refine r_get (pc := 13) cx cf_X6 0 9 rfl (by decide) rfl wd_261 dX6_advance_13 ?_
        obtain ⟨r4, hc5, hf⟩ := bd_of hf
        refine r_Vi (pc := 16) (ws' := [((q 0), ob 5 [.ref (q 1), .int (Rd_filled v), .int (Rd_fault v), .int (Rd_faultPlace v), .ref (q 2), .ref (q 3), .ref (q 4), .ref (q 5), .int (Rd_limit v), .int x1, .int (Rd_token v), .int (Rd_value v), .int (Rd_place v), .int (Rd_toldRules v), .int (Rd_toldData v)]), ((q 1), aB K 700 (Rd_tape v)), ((q 2), aI K 25 (Rd_words v)), ((q 3), aI K 75 (Rd_sorts v)), ((q 4), aI K 3 (Rd_parts v)), ((q 5), aI K 64 (Rd_wantedPlaces v))]) cx [.int x1] [] [0, 1, 2, 3, 4, 5] (m_Rd_signAt l D K q ((Rd_tape v), (Rd_filled v), (Rd_fault v), (Rd_faultPlace v), (Rd_words v), (Rd_sorts v), (Rd_parts v), (Rd_wantedPlaces v), (Rd_limit v), x1, (Rd_token v), (Rd_value v), (Rd_place v), (Rd_toldRules v), (Rd_toldData v)) x1 hc5) yv_X6_signAt wd_625 ⟨rfl, rfl⟩ (by decide) rfl rfl rfl (by decide) 0 rfl rfl rfl (Nat.le_of_ble_eq_true rfl) dX6_advance_16 ?_
        refine r_bipush (pc := 19) cx dX6_advance_19 bp_32 ?_
        refine r_icmp_eq (pc := 21) (tgt := 37) cx dX6_advance_21 (by decide) (fun h6 => ?_) (fun h6 => ?_)
        · have hf := ifp h6 hf
          refine r_aload_n (pc := 37) cx dX6_advance_37 0 rfl ?_
          refine r_dup (pc := 38) cx dX6_advance_38 rfl ?_
          refine r_get (pc := 39) cx cf_X6 0 9 rfl (by decide) rfl wd_261 dX6_advance_39 ?_
          refine r_iconst (pc := 42) cx dX6_advance_42 ic_1 ?_
          refine r_iadd (pc := 43) cx dX6_advance_43 ?_
          obtain ⟨x7, ex7, hf⟩ := nm_of hf
          refine r_nm ex7 ?_
          refine r_putI (pc := 44) (ws' := [((q 0), ob 5 [.ref (q 1), .int (Rd_filled v), .int (Rd_fault v), .int (Rd_faultPlace v), .ref (q 2), .ref (q 3), .ref (q 4), .ref (q 5), .int (Rd_limit v), .int x7, .int (Rd_token v), .int (Rd_value v), .int (Rd_place v), .int (Rd_toldRules v), .int (Rd_toldData v)]), ((q 1), aB K 700 (Rd_tape v)), ((q 2), aI K 25 (Rd_words v)), ((q 3), aI K 75 (Rd_sorts v)), ((q 4), aI K 3 (Rd_parts v)), ((q 5), aI K 64 (Rd_wantedPlaces v))]) cx cf_X6 0 9 rfl (by decide) (Nat.le_of_ble_eq_true rfl) rfl pfd_I wd_261 dX6_advance_44 rfl ?_
          refine r_goto (pc := 47) (tgt := 0) cx dX6_advance_47 (by decide) ?_
          exact ih0 _ hf
        · have hf := ifn h6 hf
          refine r_aload_n (pc := 24) cx dX6_advance_24 0 rfl ?_
          refine r_aload_n (pc := 25) cx dX6_advance_25 0 rfl ?_
          refine r_get (pc := 26) cx cf_X6 0 9 rfl (by decide) rfl wd_261 dX6_advance_26 ?_
          obtain ⟨r8, hc9, hf⟩ := bd_of hf
          refine r_Vi (pc := 29) (ws' := [((q 0), ob 5 [.ref (q 1), .int (Rd_filled v), .int (Rd_fault v), .int (Rd_faultPlace v), .ref (q 2), .ref (q 3), .ref (q 4), .ref (q 5), .int (Rd_limit v), .int x1, .int (Rd_token v), .int (Rd_value v), .int (Rd_place v), .int (Rd_toldRules v), .int (Rd_toldData v)]), ((q 1), aB K 700 (Rd_tape v)), ((q 2), aI K 25 (Rd_words v)), ((q 3), aI K 75 (Rd_sorts v)), ((q 4), aI K 3 (Rd_parts v)), ((q 5), aI K 64 (Rd_wantedPlaces v))]) cx [.int x1] [] [0, 1, 2, 3, 4, 5] (m_Rd_signAt l D K q ((Rd_tape v), (Rd_filled v), (Rd_fault v), (Rd_faultPlace v), (Rd_words v), (Rd_sorts v), (Rd_parts v), (Rd_wantedPlaces v), (Rd_limit v), x1, (Rd_token v), (Rd_value v), (Rd_place v), (Rd_toldRules v), (Rd_toldData v)) x1 hc9) yv_X6_signAt wd_625 ⟨rfl, rfl⟩ (by decide) rfl rfl rfl (by decide) 0 rfl rfl rfl (Nat.le_of_ble_eq_true rfl) dX6_advance_29 ?_
          refine r_bipush (pc := 32) cx dX6_advance_32 bp_10 ?_
          refine r_icmp_ne (pc := 34) (tgt := 50) cx dX6_advance_34 (by decide) (fun h10 => ?_) (fun h10 => ?_)
          · have hf := ifn h10 hf
            exact hk0_50 _ hf
          · have hf := ifp h10 hf
            refine r_aload_n (pc := 37) cx dX6_advance_37 0 rfl ?_
            refine r_dup (pc := 38) cx dX6_advance_38 rfl ?_
            refine r_get (pc := 39) cx cf_X6 0 9 rfl (by decide) rfl wd_261 dX6_advance_39 ?_
            refine r_iconst (pc := 42) cx dX6_advance_42 ic_1 ?_
            refine r_iadd (pc := 43) cx dX6_advance_43 ?_
            obtain ⟨x11, ex11, hf⟩ := nm_of hf
            refine r_nm ex11 ?_
            refine r_putI (pc := 44) (ws' := [((q 0), ob 5 [.ref (q 1), .int (Rd_filled v), .int (Rd_fault v), .int (Rd_faultPlace v), .ref (q 2), .ref (q 3), .ref (q 4), .ref (q 5), .int (Rd_limit v), .int x11, .int (Rd_token v), .int (Rd_value v), .int (Rd_place v), .int (Rd_toldRules v), .int (Rd_toldData v)]), ((q 1), aB K 700 (Rd_tape v)), ((q 2), aI K 25 (Rd_words v)), ((q 3), aI K 75 (Rd_sorts v)), ((q 4), aI K 3 (Rd_parts v)), ((q 5), aI K 64 (Rd_wantedPlaces v))]) cx cf_X6 0 9 rfl (by decide) (Nat.le_of_ble_eq_true rfl) rfl pfd_I wd_261 dX6_advance_44 rfl ?_
            refine r_goto (pc := 47) (tgt := 0) cx dX6_advance_47 (by decide) ?_
            exact ih0 _ hf
  refine hL0 _ (fun x2 hf => ?_) _ _ hf
  refine r_aload_n (pc := 50) cx dX6_advance_50 0 rfl ?_
  refine r_aload_n (pc := 51) cx dX6_advance_51 0 rfl ?_
  refine r_get (pc := 52) cx cf_X6 0 9 rfl (by decide) rfl wd_261 dX6_advance_52 ?_
  refine r_putI (pc := 55) (ws' := [((q 0), ob 5 [.ref (q 1), .int (Rd_filled v), .int (Rd_fault v), .int (Rd_faultPlace v), .ref (q 2), .ref (q 3), .ref (q 4), .ref (q 5), .int (Rd_limit v), .int x2, .int (Rd_token v), .int (Rd_value v), .int x2, .int (Rd_toldRules v), .int (Rd_toldData v)]), ((q 1), aB K 700 (Rd_tape v)), ((q 2), aI K 25 (Rd_words v)), ((q 3), aI K 75 (Rd_sorts v)), ((q 4), aI K 3 (Rd_parts v)), ((q 5), aI K 64 (Rd_wantedPlaces v))]) cx cf_X6 0 12 rfl (by decide) (Nat.le_of_ble_eq_true rfl) rfl pfd_I wd_264 dX6_advance_55 rfl ?_
  refine r_aload_n (pc := 58) cx dX6_advance_58 0 rfl ?_
  refine r_aload_n (pc := 59) cx dX6_advance_59 0 rfl ?_
  refine r_get (pc := 60) cx cf_X6 0 9 rfl (by decide) rfl wd_261 dX6_advance_60 ?_
  obtain ⟨r12, hc13, hf⟩ := bd_of hf
  refine r_Vi (pc := 63) (ws' := [((q 0), ob 5 [.ref (q 1), .int (Rd_filled v), .int (Rd_fault v), .int (Rd_faultPlace v), .ref (q 2), .ref (q 3), .ref (q 4), .ref (q 5), .int (Rd_limit v), .int x2, .int (Rd_token v), .int (Rd_value v), .int x2, .int (Rd_toldRules v), .int (Rd_toldData v)]), ((q 1), aB K 700 (Rd_tape v)), ((q 2), aI K 25 (Rd_words v)), ((q 3), aI K 75 (Rd_sorts v)), ((q 4), aI K 3 (Rd_parts v)), ((q 5), aI K 64 (Rd_wantedPlaces v))]) cx [.int x2] [] [0, 1, 2, 3, 4, 5] (m_Rd_signAt l D K q ((Rd_tape v), (Rd_filled v), (Rd_fault v), (Rd_faultPlace v), (Rd_words v), (Rd_sorts v), (Rd_parts v), (Rd_wantedPlaces v), (Rd_limit v), x2, (Rd_token v), (Rd_value v), x2, (Rd_toldRules v), (Rd_toldData v)) x2 hc13) yv_X6_signAt wd_625 ⟨rfl, rfl⟩ (by decide) rfl rfl rfl (by decide) 0 rfl rfl rfl (Nat.le_of_ble_eq_true rfl) dX6_advance_63 ?_
  refine r_istore_n (pc := 66) (loc' := [(1, .int r12), (0, .ref (q 0))]) cx dX6_advance_66 rfl (by decide) rfl ?_
  refine r_iload_n (pc := 67) cx dX6_advance_67 0 rfl ?_
  refine r_iconst (pc := 68) cx dX6_advance_68 ic_m1 ?_
  refine r_icmp_ne (pc := 69) (tgt := 80) cx dX6_advance_69 (by decide) (fun h14 => ?_) (fun h14 => ?_)
  · have hf := ifn h14 hf
    refine r_iload_n (pc := 80) cx dX6_advance_80 0 rfl ?_
    refine r_bipush (pc := 81) cx dX6_advance_81 bp_97 ?_
    refine r_icmp_lt (pc := 83) (tgt := 99) cx dX6_advance_83 (by decide) (fun h15 => ?_) (fun h15 => ?_)
    · have hf := ifp h15 hf
      refine r_iload_n (pc := 99) cx dX6_advance_99 0 rfl ?_
      refine r_bipush (pc := 100) cx dX6_advance_100 bp_48 ?_
      refine r_icmp_lt (pc := 102) (tgt := 118) cx dX6_advance_102 (by decide) (fun h16 => ?_) (fun h16 => ?_)
      · have hf := ifp h16 hf
        refine r_aload_n (pc := 118) cx dX6_advance_118 1 rfl ?_
        refine r_iload_n (pc := 119) cx dX6_advance_119 0 rfl ?_
        refine r_bipush (pc := 120) cx dX6_advance_120 bp_59 ?_
        obtain ⟨J18, eJ18, hf⟩ := nm_of hf
        have hJ18 : ∀ (y17 : Int32), J18 y17 = some o_v → WW p l e rm_Rd_advance s m args below meth c D A 2 0 0 (MQ below (QV D K A (cl_Rd K q o_v)) args s 0 0 A) ([((q 0), ob 5 [.ref (q 1), .int (Rd_filled v), .int (Rd_fault v), .int (Rd_faultPlace v), .ref (q 2), .ref (q 3), .ref (q 4), .ref (q 5), .int (Rd_limit v), .int x2, .int (Rd_token v), .int (Rd_value v), .int x2, .int (Rd_toldRules v), .int (Rd_toldData v)]), ((q 1), aB K 700 (Rd_tape v)), ((q 2), aI K 25 (Rd_words v)), ((q 3), aI K 75 (Rd_sorts v)), ((q 4), aI K 3 (Rd_parts v)), ((q 5), aI K 64 (Rd_wantedPlaces v))]) ([(0, .ref (q 0))]) ([.int y17, .ref (q 0)]) 130 := by
          intro y17 hf
          rw [eJ18] at hf
          refine r_putI (pc := 130) (ws' := [((q 0), ob 5 [.ref (q 1), .int (Rd_filled v), .int (Rd_fault v), .int (Rd_faultPlace v), .ref (q 2), .ref (q 3), .ref (q 4), .ref (q 5), .int (Rd_limit v), .int x2, .int y17, .int (Rd_value v), .int x2, .int (Rd_toldRules v), .int (Rd_toldData v)]), ((q 1), aB K 700 (Rd_tape v)), ((q 2), aI K 25 (Rd_words v)), ((q 3), aI K 75 (Rd_sorts v)), ((q 4), aI K 3 (Rd_parts v)), ((q 5), aI K 64 (Rd_wantedPlaces v))]) cx cf_X6 0 10 rfl (by decide) (Nat.le_of_ble_eq_true rfl) rfl pfd_I wd_262 dX6_advance_130 rfl ?_
          refine r_aload_n (pc := 133) cx dX6_advance_133 0 rfl ?_
          refine r_dup (pc := 134) cx dX6_advance_134 rfl ?_
          refine r_get (pc := 135) cx cf_X6 0 9 rfl (by decide) rfl wd_261 dX6_advance_135 ?_
          refine r_iconst (pc := 138) cx dX6_advance_138 ic_1 ?_
          refine r_iadd (pc := 139) cx dX6_advance_139 ?_
          obtain ⟨x19, ex19, hf⟩ := nm_of hf
          refine r_nm ex19 ?_
          refine r_putI (pc := 140) (ws' := [((q 0), ob 5 [.ref (q 1), .int (Rd_filled v), .int (Rd_fault v), .int (Rd_faultPlace v), .ref (q 2), .ref (q 3), .ref (q 4), .ref (q 5), .int (Rd_limit v), .int x19, .int y17, .int (Rd_value v), .int x2, .int (Rd_toldRules v), .int (Rd_toldData v)]), ((q 1), aB K 700 (Rd_tape v)), ((q 2), aI K 25 (Rd_words v)), ((q 3), aI K 75 (Rd_sorts v)), ((q 4), aI K 3 (Rd_parts v)), ((q 5), aI K 64 (Rd_wantedPlaces v))]) cx cf_X6 0 9 rfl (by decide) (Nat.le_of_ble_eq_true rfl) rfl pfd_I wd_261 dX6_advance_140 rfl ?_
          cases hf
          exact r_vret (pc := 143) cx rfl dX6_advance_143
        refine r_icmp_ne (pc := 122) (tgt := 129) cx dX6_advance_122 (by decide) (fun h20 => ?_) (fun h20 => ?_)
        · have hf := ifn h20 hf
          refine r_iconst (pc := 129) cx dX6_advance_129 ic_4 ?_
          refine r_loc (loc' := [(0, .ref (q 0))]) [1] rfl ?_
          exact hJ18 _ hf
        · have hf := ifp h20 hf
          refine r_iconst (pc := 125) cx dX6_advance_125 ic_3 ?_
          refine r_goto (pc := 126) (tgt := 130) cx dX6_advance_126 (by decide) ?_
          refine r_loc (loc' := [(0, .ref (q 0))]) [1] rfl ?_
          exact hJ18 _ hf
      · have hf := ifn h16 hf
        refine r_iload_n (pc := 105) cx dX6_advance_105 0 rfl ?_
        refine r_bipush (pc := 106) cx dX6_advance_106 bp_57 ?_
        refine r_icmp_gt (pc := 108) (tgt := 118) cx dX6_advance_108 (by decide) (fun h21 => ?_) (fun h21 => ?_)
        · have hf := ifp h21 hf
          refine r_aload_n (pc := 118) cx dX6_advance_118 1 rfl ?_
          refine r_iload_n (pc := 119) cx dX6_advance_119 0 rfl ?_
          refine r_bipush (pc := 120) cx dX6_advance_120 bp_59 ?_
          obtain ⟨J23, eJ23, hf⟩ := nm_of hf
          have hJ23 : ∀ (y22 : Int32), J23 y22 = some o_v → WW p l e rm_Rd_advance s m args below meth c D A 2 0 0 (MQ below (QV D K A (cl_Rd K q o_v)) args s 0 0 A) ([((q 0), ob 5 [.ref (q 1), .int (Rd_filled v), .int (Rd_fault v), .int (Rd_faultPlace v), .ref (q 2), .ref (q 3), .ref (q 4), .ref (q 5), .int (Rd_limit v), .int x2, .int (Rd_token v), .int (Rd_value v), .int x2, .int (Rd_toldRules v), .int (Rd_toldData v)]), ((q 1), aB K 700 (Rd_tape v)), ((q 2), aI K 25 (Rd_words v)), ((q 3), aI K 75 (Rd_sorts v)), ((q 4), aI K 3 (Rd_parts v)), ((q 5), aI K 64 (Rd_wantedPlaces v))]) ([(0, .ref (q 0))]) ([.int y22, .ref (q 0)]) 130 := by
            intro y22 hf
            rw [eJ23] at hf
            refine r_putI (pc := 130) (ws' := [((q 0), ob 5 [.ref (q 1), .int (Rd_filled v), .int (Rd_fault v), .int (Rd_faultPlace v), .ref (q 2), .ref (q 3), .ref (q 4), .ref (q 5), .int (Rd_limit v), .int x2, .int y22, .int (Rd_value v), .int x2, .int (Rd_toldRules v), .int (Rd_toldData v)]), ((q 1), aB K 700 (Rd_tape v)), ((q 2), aI K 25 (Rd_words v)), ((q 3), aI K 75 (Rd_sorts v)), ((q 4), aI K 3 (Rd_parts v)), ((q 5), aI K 64 (Rd_wantedPlaces v))]) cx cf_X6 0 10 rfl (by decide) (Nat.le_of_ble_eq_true rfl) rfl pfd_I wd_262 dX6_advance_130 rfl ?_
            refine r_aload_n (pc := 133) cx dX6_advance_133 0 rfl ?_
            refine r_dup (pc := 134) cx dX6_advance_134 rfl ?_
            refine r_get (pc := 135) cx cf_X6 0 9 rfl (by decide) rfl wd_261 dX6_advance_135 ?_
            refine r_iconst (pc := 138) cx dX6_advance_138 ic_1 ?_
            refine r_iadd (pc := 139) cx dX6_advance_139 ?_
            obtain ⟨x24, ex24, hf⟩ := nm_of hf
            refine r_nm ex24 ?_
            refine r_putI (pc := 140) (ws' := [((q 0), ob 5 [.ref (q 1), .int (Rd_filled v), .int (Rd_fault v), .int (Rd_faultPlace v), .ref (q 2), .ref (q 3), .ref (q 4), .ref (q 5), .int (Rd_limit v), .int x24, .int y22, .int (Rd_value v), .int x2, .int (Rd_toldRules v), .int (Rd_toldData v)]), ((q 1), aB K 700 (Rd_tape v)), ((q 2), aI K 25 (Rd_words v)), ((q 3), aI K 75 (Rd_sorts v)), ((q 4), aI K 3 (Rd_parts v)), ((q 5), aI K 64 (Rd_wantedPlaces v))]) cx cf_X6 0 9 rfl (by decide) (Nat.le_of_ble_eq_true rfl) rfl pfd_I wd_261 dX6_advance_140 rfl ?_
            cases hf
            exact r_vret (pc := 143) cx rfl dX6_advance_143
          refine r_icmp_ne (pc := 122) (tgt := 129) cx dX6_advance_122 (by decide) (fun h25 => ?_) (fun h25 => ?_)
          · have hf := ifn h25 hf
            refine r_iconst (pc := 129) cx dX6_advance_129 ic_4 ?_
            refine r_loc (loc' := [(0, .ref (q 0))]) [1] rfl ?_
            exact hJ23 _ hf
          · have hf := ifp h25 hf
            refine r_iconst (pc := 125) cx dX6_advance_125 ic_3 ?_
            refine r_goto (pc := 126) (tgt := 130) cx dX6_advance_126 (by decide) ?_
            refine r_loc (loc' := [(0, .ref (q 0))]) [1] rfl ?_
            exact hJ23 _ hf
        · have hf := ifn h21 hf
          refine r_aload_n (pc := 111) cx dX6_advance_111 1 rfl ?_
          obtain ⟨v26, hc27, hf⟩ := bd_of hf
          refine r_Vv (pc := 112) (ws' := [((q 0), ob 5 [.ref (q 1), .int (Rd_filled v26), .int (Rd_fault v26), .int (Rd_faultPlace v26), .ref (q 2), .ref (q 3), .ref (q 4), .ref (q 5), .int (Rd_limit v26), .int (Rd_position v26), .int (Rd_token v26), .int (Rd_value v26), .int (Rd_place v26), .int (Rd_toldRules v26), .int (Rd_toldData v26)]), ((q 1), aB K 700 (Rd_tape v26)), ((q 2), aI K 25 (Rd_words v26)), ((q 3), aI K 75 (Rd_sorts v26)), ((q 4), aI K 3 (Rd_parts v26)), ((q 5), aI K 64 (Rd_wantedPlaces v26))]) cx [] [] [0, 1, 2, 3, 4, 5] (m_Rd_readNumber l D K q ((Rd_tape v), (Rd_filled v), (Rd_fault v), (Rd_faultPlace v), (Rd_words v), (Rd_sorts v), (Rd_parts v), (Rd_wantedPlaces v), (Rd_limit v), x2, (Rd_token v), (Rd_value v), x2, (Rd_toldRules v), (Rd_toldData v)) hc27) yv_X6_readNumber wd_633 ⟨rfl, rfl⟩ (by decide) rfl rfl rfl (by decide) 0 rfl rfl rfl (Nat.le_of_ble_eq_true rfl) dX6_advance_112 ?_
          refine r_goto (pc := 115) (tgt := 143) cx dX6_advance_115 (by decide) ?_
          cases hf
          exact r_vret (pc := 143) cx rfl dX6_advance_143
    · have hf := ifn h15 hf
      refine r_iload_n (pc := 86) cx dX6_advance_86 0 rfl ?_
      refine r_bipush (pc := 87) cx dX6_advance_87 bp_122 ?_
      refine r_icmp_gt (pc := 89) (tgt := 99) cx dX6_advance_89 (by decide) (fun h28 => ?_) (fun h28 => ?_)
      · have hf := ifp h28 hf
        refine r_iload_n (pc := 99) cx dX6_advance_99 0 rfl ?_
        refine r_bipush (pc := 100) cx dX6_advance_100 bp_48 ?_
        refine r_icmp_lt (pc := 102) (tgt := 118) cx dX6_advance_102 (by decide) (fun h29 => ?_) (fun h29 => ?_)
        · have hf := ifp h29 hf
          refine r_aload_n (pc := 118) cx dX6_advance_118 1 rfl ?_
          refine r_iload_n (pc := 119) cx dX6_advance_119 0 rfl ?_
          refine r_bipush (pc := 120) cx dX6_advance_120 bp_59 ?_
          obtain ⟨J31, eJ31, hf⟩ := nm_of hf
          have hJ31 : ∀ (y30 : Int32), J31 y30 = some o_v → WW p l e rm_Rd_advance s m args below meth c D A 2 0 0 (MQ below (QV D K A (cl_Rd K q o_v)) args s 0 0 A) ([((q 0), ob 5 [.ref (q 1), .int (Rd_filled v), .int (Rd_fault v), .int (Rd_faultPlace v), .ref (q 2), .ref (q 3), .ref (q 4), .ref (q 5), .int (Rd_limit v), .int x2, .int (Rd_token v), .int (Rd_value v), .int x2, .int (Rd_toldRules v), .int (Rd_toldData v)]), ((q 1), aB K 700 (Rd_tape v)), ((q 2), aI K 25 (Rd_words v)), ((q 3), aI K 75 (Rd_sorts v)), ((q 4), aI K 3 (Rd_parts v)), ((q 5), aI K 64 (Rd_wantedPlaces v))]) ([(0, .ref (q 0))]) ([.int y30, .ref (q 0)]) 130 := by
            intro y30 hf
            rw [eJ31] at hf
            refine r_putI (pc := 130) (ws' := [((q 0), ob 5 [.ref (q 1), .int (Rd_filled v), .int (Rd_fault v), .int (Rd_faultPlace v), .ref (q 2), .ref (q 3), .ref (q 4), .ref (q 5), .int (Rd_limit v), .int x2, .int y30, .int (Rd_value v), .int x2, .int (Rd_toldRules v), .int (Rd_toldData v)]), ((q 1), aB K 700 (Rd_tape v)), ((q 2), aI K 25 (Rd_words v)), ((q 3), aI K 75 (Rd_sorts v)), ((q 4), aI K 3 (Rd_parts v)), ((q 5), aI K 64 (Rd_wantedPlaces v))]) cx cf_X6 0 10 rfl (by decide) (Nat.le_of_ble_eq_true rfl) rfl pfd_I wd_262 dX6_advance_130 rfl ?_
            refine r_aload_n (pc := 133) cx dX6_advance_133 0 rfl ?_
            refine r_dup (pc := 134) cx dX6_advance_134 rfl ?_
            refine r_get (pc := 135) cx cf_X6 0 9 rfl (by decide) rfl wd_261 dX6_advance_135 ?_
            refine r_iconst (pc := 138) cx dX6_advance_138 ic_1 ?_
            refine r_iadd (pc := 139) cx dX6_advance_139 ?_
            obtain ⟨x32, ex32, hf⟩ := nm_of hf
            refine r_nm ex32 ?_
            refine r_putI (pc := 140) (ws' := [((q 0), ob 5 [.ref (q 1), .int (Rd_filled v), .int (Rd_fault v), .int (Rd_faultPlace v), .ref (q 2), .ref (q 3), .ref (q 4), .ref (q 5), .int (Rd_limit v), .int x32, .int y30, .int (Rd_value v), .int x2, .int (Rd_toldRules v), .int (Rd_toldData v)]), ((q 1), aB K 700 (Rd_tape v)), ((q 2), aI K 25 (Rd_words v)), ((q 3), aI K 75 (Rd_sorts v)), ((q 4), aI K 3 (Rd_parts v)), ((q 5), aI K 64 (Rd_wantedPlaces v))]) cx cf_X6 0 9 rfl (by decide) (Nat.le_of_ble_eq_true rfl) rfl pfd_I wd_261 dX6_advance_140 rfl ?_
            cases hf
            exact r_vret (pc := 143) cx rfl dX6_advance_143
          refine r_icmp_ne (pc := 122) (tgt := 129) cx dX6_advance_122 (by decide) (fun h33 => ?_) (fun h33 => ?_)
          · have hf := ifn h33 hf
            refine r_iconst (pc := 129) cx dX6_advance_129 ic_4 ?_
            refine r_loc (loc' := [(0, .ref (q 0))]) [1] rfl ?_
            exact hJ31 _ hf
          · have hf := ifp h33 hf
            refine r_iconst (pc := 125) cx dX6_advance_125 ic_3 ?_
            refine r_goto (pc := 126) (tgt := 130) cx dX6_advance_126 (by decide) ?_
            refine r_loc (loc' := [(0, .ref (q 0))]) [1] rfl ?_
            exact hJ31 _ hf
        · have hf := ifn h29 hf
          refine r_iload_n (pc := 105) cx dX6_advance_105 0 rfl ?_
          refine r_bipush (pc := 106) cx dX6_advance_106 bp_57 ?_
          refine r_icmp_gt (pc := 108) (tgt := 118) cx dX6_advance_108 (by decide) (fun h34 => ?_) (fun h34 => ?_)
          · have hf := ifp h34 hf
            refine r_aload_n (pc := 118) cx dX6_advance_118 1 rfl ?_
            refine r_iload_n (pc := 119) cx dX6_advance_119 0 rfl ?_
            refine r_bipush (pc := 120) cx dX6_advance_120 bp_59 ?_
            obtain ⟨J36, eJ36, hf⟩ := nm_of hf
            have hJ36 : ∀ (y35 : Int32), J36 y35 = some o_v → WW p l e rm_Rd_advance s m args below meth c D A 2 0 0 (MQ below (QV D K A (cl_Rd K q o_v)) args s 0 0 A) ([((q 0), ob 5 [.ref (q 1), .int (Rd_filled v), .int (Rd_fault v), .int (Rd_faultPlace v), .ref (q 2), .ref (q 3), .ref (q 4), .ref (q 5), .int (Rd_limit v), .int x2, .int (Rd_token v), .int (Rd_value v), .int x2, .int (Rd_toldRules v), .int (Rd_toldData v)]), ((q 1), aB K 700 (Rd_tape v)), ((q 2), aI K 25 (Rd_words v)), ((q 3), aI K 75 (Rd_sorts v)), ((q 4), aI K 3 (Rd_parts v)), ((q 5), aI K 64 (Rd_wantedPlaces v))]) ([(0, .ref (q 0))]) ([.int y35, .ref (q 0)]) 130 := by
              intro y35 hf
              rw [eJ36] at hf
              refine r_putI (pc := 130) (ws' := [((q 0), ob 5 [.ref (q 1), .int (Rd_filled v), .int (Rd_fault v), .int (Rd_faultPlace v), .ref (q 2), .ref (q 3), .ref (q 4), .ref (q 5), .int (Rd_limit v), .int x2, .int y35, .int (Rd_value v), .int x2, .int (Rd_toldRules v), .int (Rd_toldData v)]), ((q 1), aB K 700 (Rd_tape v)), ((q 2), aI K 25 (Rd_words v)), ((q 3), aI K 75 (Rd_sorts v)), ((q 4), aI K 3 (Rd_parts v)), ((q 5), aI K 64 (Rd_wantedPlaces v))]) cx cf_X6 0 10 rfl (by decide) (Nat.le_of_ble_eq_true rfl) rfl pfd_I wd_262 dX6_advance_130 rfl ?_
              refine r_aload_n (pc := 133) cx dX6_advance_133 0 rfl ?_
              refine r_dup (pc := 134) cx dX6_advance_134 rfl ?_
              refine r_get (pc := 135) cx cf_X6 0 9 rfl (by decide) rfl wd_261 dX6_advance_135 ?_
              refine r_iconst (pc := 138) cx dX6_advance_138 ic_1 ?_
              refine r_iadd (pc := 139) cx dX6_advance_139 ?_
              obtain ⟨x37, ex37, hf⟩ := nm_of hf
              refine r_nm ex37 ?_
              refine r_putI (pc := 140) (ws' := [((q 0), ob 5 [.ref (q 1), .int (Rd_filled v), .int (Rd_fault v), .int (Rd_faultPlace v), .ref (q 2), .ref (q 3), .ref (q 4), .ref (q 5), .int (Rd_limit v), .int x37, .int y35, .int (Rd_value v), .int x2, .int (Rd_toldRules v), .int (Rd_toldData v)]), ((q 1), aB K 700 (Rd_tape v)), ((q 2), aI K 25 (Rd_words v)), ((q 3), aI K 75 (Rd_sorts v)), ((q 4), aI K 3 (Rd_parts v)), ((q 5), aI K 64 (Rd_wantedPlaces v))]) cx cf_X6 0 9 rfl (by decide) (Nat.le_of_ble_eq_true rfl) rfl pfd_I wd_261 dX6_advance_140 rfl ?_
              cases hf
              exact r_vret (pc := 143) cx rfl dX6_advance_143
            refine r_icmp_ne (pc := 122) (tgt := 129) cx dX6_advance_122 (by decide) (fun h38 => ?_) (fun h38 => ?_)
            · have hf := ifn h38 hf
              refine r_iconst (pc := 129) cx dX6_advance_129 ic_4 ?_
              refine r_loc (loc' := [(0, .ref (q 0))]) [1] rfl ?_
              exact hJ36 _ hf
            · have hf := ifp h38 hf
              refine r_iconst (pc := 125) cx dX6_advance_125 ic_3 ?_
              refine r_goto (pc := 126) (tgt := 130) cx dX6_advance_126 (by decide) ?_
              refine r_loc (loc' := [(0, .ref (q 0))]) [1] rfl ?_
              exact hJ36 _ hf
          · have hf := ifn h34 hf
            refine r_aload_n (pc := 111) cx dX6_advance_111 1 rfl ?_
            obtain ⟨v39, hc40, hf⟩ := bd_of hf
            refine r_Vv (pc := 112) (ws' := [((q 0), ob 5 [.ref (q 1), .int (Rd_filled v39), .int (Rd_fault v39), .int (Rd_faultPlace v39), .ref (q 2), .ref (q 3), .ref (q 4), .ref (q 5), .int (Rd_limit v39), .int (Rd_position v39), .int (Rd_token v39), .int (Rd_value v39), .int (Rd_place v39), .int (Rd_toldRules v39), .int (Rd_toldData v39)]), ((q 1), aB K 700 (Rd_tape v39)), ((q 2), aI K 25 (Rd_words v39)), ((q 3), aI K 75 (Rd_sorts v39)), ((q 4), aI K 3 (Rd_parts v39)), ((q 5), aI K 64 (Rd_wantedPlaces v39))]) cx [] [] [0, 1, 2, 3, 4, 5] (m_Rd_readNumber l D K q ((Rd_tape v), (Rd_filled v), (Rd_fault v), (Rd_faultPlace v), (Rd_words v), (Rd_sorts v), (Rd_parts v), (Rd_wantedPlaces v), (Rd_limit v), x2, (Rd_token v), (Rd_value v), x2, (Rd_toldRules v), (Rd_toldData v)) hc40) yv_X6_readNumber wd_633 ⟨rfl, rfl⟩ (by decide) rfl rfl rfl (by decide) 0 rfl rfl rfl (Nat.le_of_ble_eq_true rfl) dX6_advance_112 ?_
            refine r_goto (pc := 115) (tgt := 143) cx dX6_advance_115 (by decide) ?_
            cases hf
            exact r_vret (pc := 143) cx rfl dX6_advance_143
      · have hf := ifn h28 hf
        refine r_aload_n (pc := 92) cx dX6_advance_92 1 rfl ?_
        obtain ⟨v41, hc42, hf⟩ := bd_of hf
        refine r_Vv (pc := 93) (ws' := [((q 0), ob 5 [.ref (q 1), .int (Rd_filled v41), .int (Rd_fault v41), .int (Rd_faultPlace v41), .ref (q 2), .ref (q 3), .ref (q 4), .ref (q 5), .int (Rd_limit v41), .int (Rd_position v41), .int (Rd_token v41), .int (Rd_value v41), .int (Rd_place v41), .int (Rd_toldRules v41), .int (Rd_toldData v41)]), ((q 1), aB K 700 (Rd_tape v41)), ((q 2), aI K 25 (Rd_words v41)), ((q 3), aI K 75 (Rd_sorts v41)), ((q 4), aI K 3 (Rd_parts v41)), ((q 5), aI K 64 (Rd_wantedPlaces v41))]) cx [] [] [0, 1, 2, 3, 4, 5] (m_Rd_readWord l D K q ((Rd_tape v), (Rd_filled v), (Rd_fault v), (Rd_faultPlace v), (Rd_words v), (Rd_sorts v), (Rd_parts v), (Rd_wantedPlaces v), (Rd_limit v), x2, (Rd_token v), (Rd_value v), x2, (Rd_toldRules v), (Rd_toldData v)) hc42) yv_X6_readWord wd_629 ⟨rfl, rfl⟩ (by decide) rfl rfl rfl (by decide) 0 rfl rfl rfl (Nat.le_of_ble_eq_true rfl) dX6_advance_93 ?_
        refine r_goto (pc := 96) (tgt := 143) cx dX6_advance_96 (by decide) ?_
        cases hf
        exact r_vret (pc := 143) cx rfl dX6_advance_143
  · have hf := ifp h14 hf
    refine r_aload_n (pc := 72) cx dX6_advance_72 1 rfl ?_
    refine r_iconst (pc := 73) cx dX6_advance_73 ic_0 ?_
    refine r_putI (pc := 74) (ws' := [((q 0), ob 5 [.ref (q 1), .int (Rd_filled v), .int (Rd_fault v), .int (Rd_faultPlace v), .ref (q 2), .ref (q 3), .ref (q 4), .ref (q 5), .int (Rd_limit v), .int x2, .int (0 : Int32), .int (Rd_value v), .int x2, .int (Rd_toldRules v), .int (Rd_toldData v)]), ((q 1), aB K 700 (Rd_tape v)), ((q 2), aI K 25 (Rd_words v)), ((q 3), aI K 75 (Rd_sorts v)), ((q 4), aI K 3 (Rd_parts v)), ((q 5), aI K 64 (Rd_wantedPlaces v))]) cx cf_X6 0 10 rfl (by decide) (Nat.le_of_ble_eq_true rfl) rfl pfd_I wd_262 dX6_advance_74 rfl ?_
    refine r_goto (pc := 77) (tgt := 143) cx dX6_advance_77 (by decide) ?_
    cases hf
    exact r_vret (pc := 143) cx rfl dX6_advance_143
theorem yv_X6_advance : YV yX6_advance cX6_advance 2 (none) 0 := ⟨⟨by decide +kernel, by decide +kernel, by decide +kernel⟩, wd_624, wd_90, wd_623, wd_1⟩
def f_Rd_wordNumber_L2 (v : T_Rd) (a1 : Int32) (k2_18 : Int32 → Option (Int32)) (k2_26 : Option (Int32)) : Nat → Int32 → Option (Int32)
  | 0, _ => none
  | n2 + 1, x1 =>
    (if (25 : Int32) ≤ x1 then (k2_26) else (if ix x1 25 then (if ((Rd_words v) x1.toNatClampNeg) = a1 then (k2_18 x1) else (nm (x1 + (1 : Int32)) fun (x6 : Int32) => (f_Rd_wordNumber_L2 v a1 k2_18 k2_26 n2 x6))) else none))
def f_Rd_wordNumber (v : T_Rd) (a1 : Int32) : Option (Int32) :=
  (f_Rd_wordNumber_L2 v a1 (fun (x2 : Int32) => (some x2)) (some (-1 : Int32)) LF (0 : Int32))
abbrev rm_Rd_wordNumber : Room := { frames := 0, cells := 0, slots := 0, locals := 0 }
set_option maxRecDepth 100000 in
set_option maxHeartbeats 4000000 in
theorem m_Rd_wordNumber (l : Launch) (D : va_G) (K : Nat → ClassId) (q : Nat → Nat) (v : T_Rd) (a1 : Int32) {r_ : Int32} (hf : f_Rd_wordNumber v a1 = some r_) : MI l yX6_wordNumber cX6_wordNumber 3 (some .int) rm_Rd_wordNumber D K [.ref (q 0), .int a1] (cl_Rd K q v) r_ (cl_Rd K q v) := by
  refine MI_of (loc0 := [(0, .ref (q 0)), (1, .int a1)]) (by decide +kernel) rfl (Nat.le_of_ble_eq_true rfl) ?_
  intro p e s m args below meth c A cx
  unfold f_Rd_wordNumber at hf
  refine r_ws (ws' := [((q 0), ob 5 [.ref (q 1), .int (Rd_filled v), .int (Rd_fault v), .int (Rd_faultPlace v), .ref (q 2), .ref (q 3), .ref (q 4), .ref (q 5), .int (Rd_limit v), .int (Rd_position v), .int (Rd_token v), .int (Rd_value v), .int (Rd_place v), .int (Rd_toldRules v), .int (Rd_toldData v)]), ((q 1), aB K 700 (Rd_tape v)), ((q 2), aI K 25 (Rd_words v)), ((q 3), aI K 75 (Rd_sorts v)), ((q 4), aI K 3 (Rd_parts v)), ((q 5), aI K 64 (Rd_wantedPlaces v))]) rfl ?_
  refine r_iconst (pc := 0) cx dX6_wordNumber_0 ic_0 ?_
  refine r_istore_n (pc := 1) (loc' := [(2, .int (0 : Int32)), (0, .ref (q 0)), (1, .int a1)]) cx dX6_wordNumber_1 rfl (by decide) rfl ?_
  have hL2 : ∀ (k2_18 : Int32 → Option (Int32)) (k2_26 : Option (Int32)), (∀ (x2 : Int32), k2_18 x2 = some r_ → WW p l e rm_Rd_wordNumber s m args below meth c D A 3 0 0 (MQ below (QI D K A r_ (cl_Rd K q v)) args s 0 0 A) ([((q 0), ob 5 [.ref (q 1), .int (Rd_filled v), .int (Rd_fault v), .int (Rd_faultPlace v), .ref (q 2), .ref (q 3), .ref (q 4), .ref (q 5), .int (Rd_limit v), .int (Rd_position v), .int (Rd_token v), .int (Rd_value v), .int (Rd_place v), .int (Rd_toldRules v), .int (Rd_toldData v)]), ((q 1), aB K 700 (Rd_tape v)), ((q 2), aI K 25 (Rd_words v)), ((q 3), aI K 75 (Rd_sorts v)), ((q 4), aI K 3 (Rd_parts v)), ((q 5), aI K 64 (Rd_wantedPlaces v))]) ([(2, .int x2)]) ([]) 18) → (k2_26 = some r_ → WW p l e rm_Rd_wordNumber s m args below meth c D A 3 0 0 (MQ below (QI D K A r_ (cl_Rd K q v)) args s 0 0 A) ([((q 0), ob 5 [.ref (q 1), .int (Rd_filled v), .int (Rd_fault v), .int (Rd_faultPlace v), .ref (q 2), .ref (q 3), .ref (q 4), .ref (q 5), .int (Rd_limit v), .int (Rd_position v), .int (Rd_token v), .int (Rd_value v), .int (Rd_place v), .int (Rd_toldRules v), .int (Rd_toldData v)]), ((q 1), aB K 700 (Rd_tape v)), ((q 2), aI K 25 (Rd_words v)), ((q 3), aI K 75 (Rd_sorts v)), ((q 4), aI K 3 (Rd_parts v)), ((q 5), aI K 64 (Rd_wantedPlaces v))]) ([]) ([]) 26) → ∀ (n2 : Nat) (x1 : Int32), f_Rd_wordNumber_L2 v a1 k2_18 k2_26 n2 x1 = some r_ → WW p l e rm_Rd_wordNumber s m args below meth c D A 3 0 0 (MQ below (QI D K A r_ (cl_Rd K q v)) args s 0 0 A) ([((q 0), ob 5 [.ref (q 1), .int (Rd_filled v), .int (Rd_fault v), .int (Rd_faultPlace v), .ref (q 2), .ref (q 3), .ref (q 4), .ref (q 5), .int (Rd_limit v), .int (Rd_position v), .int (Rd_token v), .int (Rd_value v), .int (Rd_place v), .int (Rd_toldRules v), .int (Rd_toldData v)]), ((q 1), aB K 700 (Rd_tape v)), ((q 2), aI K 25 (Rd_words v)), ((q 3), aI K 75 (Rd_sorts v)), ((q 4), aI K 3 (Rd_parts v)), ((q 5), aI K 64 (Rd_wantedPlaces v))]) ([(0, .ref (q 0)), (1, .int a1), (2, .int x1)]) ([]) 2 := by
    intro k2_18 k2_26 hk2_18 hk2_26 n2
    induction n2 with
    | zero => intro x1 hf; exact (nomatch (show (none : Option (Int32)) = some _ from hf))
    | succ n2 ih2 =>
      intro x1 hf
      rw [f_Rd_wordNumber_L2] at hf
      refine r_iload_n (pc := 2) cx dX6_wordNumber_2 2 rfl ?_
      refine r_bipush (pc := 3) cx dX6_wordNumber_3 bp_25 ?_
      refine r_icmp_ge (pc := 5) (tgt := 26) cx dX6_wordNumber_5 (by decide) (fun h3 => ?_) (fun h3 => ?_)
      · have hf := ifp h3 hf
        refine r_loc (loc' := []) [] rfl ?_
        exact hk2_26 hf
      · have hf := ifn h3 hf
        refine r_aload_n (pc := 8) cx dX6_wordNumber_8 0 rfl ?_
        refine r_get (pc := 9) cx cf_X6 0 4 rfl (by decide) rfl wd_256 dX6_wordNumber_9 ?_
        refine r_iload_n (pc := 12) cx dX6_wordNumber_12 2 rfl ?_
        obtain ⟨h4, hf⟩ := chk_of hf
        refine r_iald (pc := 13) cx 2 rfl h4 dX6_wordNumber_13 ?_
        refine r_iload_n (pc := 14) cx dX6_wordNumber_14 1 rfl ?_
        refine r_icmp_ne (pc := 15) (tgt := 20) cx dX6_wordNumber_15 (by decide) (fun h5 => ?_) (fun h5 => ?_)
        · have hf := ifn h5 hf
          obtain ⟨x6, ex6, hf⟩ := nm_of hf
          refine r_iinc (pc := 20) (loc' := [(2, .int x6), (0, .ref (q 0)), (1, .int a1)]) (v := x6) cx dX6_wordNumber_20 2 rfl ((congrArg (fun z => x1 + z) ic_1).trans ex6.symm) (by decide) rfl ?_
          refine r_goto (pc := 23) (tgt := 2) cx dX6_wordNumber_23 (by decide) ?_
          refine r_loc (loc' := [(0, .ref (q 0)), (1, .int a1), (2, .int x6)]) [1, 2, 0] rfl ?_
          exact ih2 _ hf
        · have hf := ifp h5 hf
          refine r_loc (loc' := [(2, .int x1)]) [2] rfl ?_
          exact hk2_18 _ hf
  refine r_loc (loc' := [(0, .ref (q 0)), (1, .int a1), (2, .int (0 : Int32))]) [1, 2, 0] rfl ?_
  refine hL2 _ _ (fun x2 hf => ?_) (fun hf => ?_) _ _ hf
  · refine r_iload_n (pc := 18) cx dX6_wordNumber_18 0 rfl ?_
    cases hf
    exact r_iret (pc := 19) cx rfl rfl dX6_wordNumber_19
  · refine r_iconst (pc := 26) cx dX6_wordNumber_26 ic_m1 ?_
    cases hf
    exact r_iret (pc := 27) cx rfl rfl dX6_wordNumber_27
theorem yv_X6_wordNumber : YV yX6_wordNumber cX6_wordNumber 3 (some .int) 1 := ⟨⟨by decide +kernel, by decide +kernel, by decide +kernel⟩, wd_648, wd_90, wd_647, wd_6⟩
def f_Rd_fail (v : T_Rd) (a1 : Int32) (a2 : Int32) : Option (T_Rd) :=
  (some ((Rd_tape v), (Rd_filled v), a1, a2, (Rd_words v), (Rd_sorts v), (Rd_parts v), (Rd_wantedPlaces v), (Rd_limit v), (Rd_position v), (Rd_token v), (Rd_value v), (Rd_place v), (Rd_toldRules v), (Rd_toldData v)))
abbrev rm_Rd_fail : Room := { frames := 0, cells := 0, slots := 0, locals := 0 }
set_option maxRecDepth 100000 in
set_option maxHeartbeats 4000000 in
theorem m_Rd_fail (l : Launch) (D : va_G) (K : Nat → ClassId) (q : Nat → Nat) (v : T_Rd) (a1 : Int32) (a2 : Int32) {o_v : T_Rd} (hf : f_Rd_fail v a1 a2 = some o_v) : MV l yX6_fail cX6_fail 3 (none) rm_Rd_fail D K [.ref (q 0), .int a1, .int a2] (cl_Rd K q v) (cl_Rd K q o_v) := by
  refine MV_of (loc0 := [(0, .ref (q 0)), (1, .int a1), (2, .int a2)]) (by decide +kernel) rfl (Nat.le_of_ble_eq_true rfl) ?_
  intro p e s m args below meth c A cx
  unfold f_Rd_fail at hf
  refine r_ws (ws' := [((q 0), ob 5 [.ref (q 1), .int (Rd_filled v), .int (Rd_fault v), .int (Rd_faultPlace v), .ref (q 2), .ref (q 3), .ref (q 4), .ref (q 5), .int (Rd_limit v), .int (Rd_position v), .int (Rd_token v), .int (Rd_value v), .int (Rd_place v), .int (Rd_toldRules v), .int (Rd_toldData v)]), ((q 1), aB K 700 (Rd_tape v)), ((q 2), aI K 25 (Rd_words v)), ((q 3), aI K 75 (Rd_sorts v)), ((q 4), aI K 3 (Rd_parts v)), ((q 5), aI K 64 (Rd_wantedPlaces v))]) rfl ?_
  refine r_aload_n (pc := 0) cx dX6_fail_0 0 rfl ?_
  refine r_iload_n (pc := 1) cx dX6_fail_1 1 rfl ?_
  refine r_putI (pc := 2) (ws' := [((q 0), ob 5 [.ref (q 1), .int (Rd_filled v), .int a1, .int (Rd_faultPlace v), .ref (q 2), .ref (q 3), .ref (q 4), .ref (q 5), .int (Rd_limit v), .int (Rd_position v), .int (Rd_token v), .int (Rd_value v), .int (Rd_place v), .int (Rd_toldRules v), .int (Rd_toldData v)]), ((q 1), aB K 700 (Rd_tape v)), ((q 2), aI K 25 (Rd_words v)), ((q 3), aI K 75 (Rd_sorts v)), ((q 4), aI K 3 (Rd_parts v)), ((q 5), aI K 64 (Rd_wantedPlaces v))]) cx cf_X6 0 2 rfl (by decide) (Nat.le_of_ble_eq_true rfl) rfl pfd_I wd_253 dX6_fail_2 rfl ?_
  refine r_aload_n (pc := 5) cx dX6_fail_5 0 rfl ?_
  refine r_iload_n (pc := 6) cx dX6_fail_6 2 rfl ?_
  refine r_putI (pc := 7) (ws' := [((q 0), ob 5 [.ref (q 1), .int (Rd_filled v), .int a1, .int a2, .ref (q 2), .ref (q 3), .ref (q 4), .ref (q 5), .int (Rd_limit v), .int (Rd_position v), .int (Rd_token v), .int (Rd_value v), .int (Rd_place v), .int (Rd_toldRules v), .int (Rd_toldData v)]), ((q 1), aB K 700 (Rd_tape v)), ((q 2), aI K 25 (Rd_words v)), ((q 3), aI K 75 (Rd_sorts v)), ((q 4), aI K 3 (Rd_parts v)), ((q 5), aI K 64 (Rd_wantedPlaces v))]) cx cf_X6 0 3 rfl (by decide) (Nat.le_of_ble_eq_true rfl) rfl pfd_I wd_254 dX6_fail_7 rfl ?_
  cases hf
  exact r_vret (pc := 10) cx rfl dX6_fail_10
theorem yv_X6_fail : YV yX6_fail cX6_fail 3 (none) 2 := ⟨⟨by decide +kernel, by decide +kernel, by decide +kernel⟩, wd_652, wd_90, wd_651, wd_7⟩
def f_Rd_sortOf (v : T_Rd) (a1 : Int32) (a2 : Int32) : Option (Int32) :=
  (nm ((a1 * (3 : Int32)) + a2) fun (x1 : Int32) => (if x1 < (0 : Int32) then (some (32 : Int32)) else (if (75 : Int32) ≤ x1 then (some (32 : Int32)) else (if ix x1 75 then (some ((Rd_sorts v) x1.toNatClampNeg)) else none))))
abbrev rm_Rd_sortOf : Room := { frames := 0, cells := 0, slots := 0, locals := 0 }
set_option maxRecDepth 100000 in
set_option maxHeartbeats 4000000 in
theorem m_Rd_sortOf (l : Launch) (D : va_G) (K : Nat → ClassId) (q : Nat → Nat) (v : T_Rd) (a1 : Int32) (a2 : Int32) {r_ : Int32} (hf : f_Rd_sortOf v a1 a2 = some r_) : MI l yX6_sortOf cX6_sortOf 4 (some .int) rm_Rd_sortOf D K [.ref (q 0), .int a1, .int a2] (cl_Rd K q v) r_ (cl_Rd K q v) := by
  refine MI_of (loc0 := [(0, .ref (q 0)), (1, .int a1), (2, .int a2)]) (by decide +kernel) rfl (Nat.le_of_ble_eq_true rfl) ?_
  intro p e s m args below meth c A cx
  unfold f_Rd_sortOf at hf
  refine r_ws (ws' := [((q 0), ob 5 [.ref (q 1), .int (Rd_filled v), .int (Rd_fault v), .int (Rd_faultPlace v), .ref (q 2), .ref (q 3), .ref (q 4), .ref (q 5), .int (Rd_limit v), .int (Rd_position v), .int (Rd_token v), .int (Rd_value v), .int (Rd_place v), .int (Rd_toldRules v), .int (Rd_toldData v)]), ((q 1), aB K 700 (Rd_tape v)), ((q 2), aI K 25 (Rd_words v)), ((q 3), aI K 75 (Rd_sorts v)), ((q 4), aI K 3 (Rd_parts v)), ((q 5), aI K 64 (Rd_wantedPlaces v))]) rfl ?_
  refine r_iload_n (pc := 0) cx dX6_sortOf_0 1 rfl ?_
  refine r_iconst (pc := 1) cx dX6_sortOf_1 ic_3 ?_
  refine r_imul (pc := 2) cx dX6_sortOf_2 ?_
  refine r_iload_n (pc := 3) cx dX6_sortOf_3 2 rfl ?_
  refine r_iadd (pc := 4) cx dX6_sortOf_4 ?_
  obtain ⟨x1, ex1, hf⟩ := nm_of hf
  refine r_nm ex1 ?_
  refine r_istore_n (pc := 5) (loc' := [(3, .int x1), (0, .ref (q 0)), (1, .int a1), (2, .int a2)]) cx dX6_sortOf_5 rfl (by decide) rfl ?_
  refine r_iload_n (pc := 6) cx dX6_sortOf_6 0 rfl ?_
  refine r_if_lt (pc := 7) (tgt := 28) cx dX6_sortOf_7 (by decide) (fun h2 => ?_) (fun h2 => ?_)
  · have hf := ifp h2 hf
    refine r_bipush (pc := 28) cx dX6_sortOf_28 bp_32 ?_
    cases hf
    exact r_iret (pc := 30) cx rfl rfl dX6_sortOf_30
  · have hf := ifn h2 hf
    refine r_iload_n (pc := 10) cx dX6_sortOf_10 0 rfl ?_
    refine r_aload_n (pc := 11) cx dX6_sortOf_11 1 rfl ?_
    refine r_get (pc := 12) cx cf_X6 0 5 rfl (by decide) rfl wd_257 dX6_sortOf_12 ?_
    refine r_alen (pc := 15) cx 3 rfl (by decide) dX6_sortOf_15 ?_
    refine r_icmp_ge (pc := 16) (tgt := 28) cx dX6_sortOf_16 (by decide) (fun h3 => ?_) (fun h3 => ?_)
    · have hf := ifp h3 hf
      refine r_bipush (pc := 28) cx dX6_sortOf_28 bp_32 ?_
      cases hf
      exact r_iret (pc := 30) cx rfl rfl dX6_sortOf_30
    · have hf := ifn h3 hf
      refine r_aload_n (pc := 19) cx dX6_sortOf_19 1 rfl ?_
      refine r_get (pc := 20) cx cf_X6 0 5 rfl (by decide) rfl wd_257 dX6_sortOf_20 ?_
      refine r_iload_n (pc := 23) cx dX6_sortOf_23 0 rfl ?_
      obtain ⟨h4, hf⟩ := chk_of hf
      refine r_iald (pc := 24) cx 3 rfl h4 dX6_sortOf_24 ?_
      refine r_goto (pc := 25) (tgt := 30) cx dX6_sortOf_25 (by decide) ?_
      cases hf
      exact r_iret (pc := 30) cx rfl rfl dX6_sortOf_30
theorem yv_X6_sortOf : YV yX6_sortOf cX6_sortOf 4 (some .int) 2 := ⟨⟨by decide +kernel, by decide +kernel, by decide +kernel⟩, wd_656, wd_90, wd_655, wd_8⟩
def f_Rd_readName (v : T_Rd) (pr : T_Pg) (a2 : Int32) : Option (T_Rd) :=
  (if (Rd_token v) = (1 : Int32) then (if (Rd_value v) = (-1 : Int32) then (bd (f_Rd_fail v (1 : Int32) (Rd_place v)) fun (v5 : T_Rd) => (some v5)) else (bd (f_Rd_wordNumber v (Rd_value v)) fun (r7 : Int32) => (if r7 = (-1 : Int32) then (if a2 = (119 : Int32) then (nm (Rd_place v) fun (x18 : Int32) => (nm (upd (Rd_wantedPlaces v) (((Pg_size pr) &&& (63 : Int32))).toNatClampNeg x18) fun (f19 : Nat → Int32) => (nm (Rd_value v) fun (x20 : Int32) => (nm (upd (Rd_parts v) (2 : Int32).toNatClampNeg x20) fun (f21 : Nat → Int32) => (some ((Rd_tape v), (Rd_filled v), (Rd_fault v), (Rd_faultPlace v), (Rd_words v), (Rd_sorts v), f21, f19, (Rd_limit v), (Rd_position v), (Rd_token v), (Rd_value v), (Rd_place v), (Rd_toldRules v), (Rd_toldData v))))))) else (bd (f_Pg_placeOf pr (Rd_value v)) fun (r11 : Int32) => (if r11 = (-1 : Int32) then (nm (Rd_value v) fun (x14 : Int32) => (nm (upd (Rd_parts v) (0 : Int32).toNatClampNeg x14) fun (f15 : Nat → Int32) => (some ((Rd_tape v), (Rd_filled v), (Rd_fault v), (Rd_faultPlace v), (Rd_words v), (Rd_sorts v), f15, (Rd_wantedPlaces v), (Rd_limit v), (Rd_position v), (Rd_token v), (Rd_value v), (Rd_place v), (Rd_toldRules v), (Rd_toldData v))))) else (bd (f_Rd_fail v (3 : Int32) (Rd_place v)) fun (v16 : T_Rd) => (some v16))))) else (bd (f_Rd_fail v (1 : Int32) (Rd_place v)) fun (v22 : T_Rd) => (some v22))))) else (bd (f_Rd_fail v (1 : Int32) (Rd_place v)) fun (v2 : T_Rd) => (some v2)))
abbrev rm_Rd_readName : Room := { frames := 1, cells := 0, slots := 0, locals := 22 }
set_option maxRecDepth 100000 in
set_option maxHeartbeats 4000000 in
theorem m_Rd_readName (l : Launch) (D : va_G) (K : Nat → ClassId) (q : Nat → Nat) (v : T_Rd) (g : Nat → Nat) (pr : T_Pg) (a2 : Int32) {o_v : T_Rd} (hf : f_Rd_readName v pr a2 = some o_v) : MV l yX6_readName cX6_readName 3 (none) rm_Rd_readName D K [.ref (q 0), .ref (g 0), .int a2] (cl_Rd K q v ++ (cl_Pg K g pr)) (cl_Rd K q o_v ++ (cl_Pg K g pr)) := by
  refine MV_of (loc0 := [(0, .ref (q 0)), (1, .ref (g 0)), (2, .int a2)]) (by decide +kernel) rfl (Nat.le_of_ble_eq_true rfl) ?_
  intro p e s m args below meth c A cx
  unfold f_Rd_readName at hf
  refine r_ws (ws' := [((q 0), ob 5 [.ref (q 1), .int (Rd_filled v), .int (Rd_fault v), .int (Rd_faultPlace v), .ref (q 2), .ref (q 3), .ref (q 4), .ref (q 5), .int (Rd_limit v), .int (Rd_position v), .int (Rd_token v), .int (Rd_value v), .int (Rd_place v), .int (Rd_toldRules v), .int (Rd_toldData v)]), ((q 1), aB K 700 (Rd_tape v)), ((q 2), aI K 25 (Rd_words v)), ((q 3), aI K 75 (Rd_sorts v)), ((q 4), aI K 3 (Rd_parts v)), ((q 5), aI K 64 (Rd_wantedPlaces v)), ((g 0), ob 3 [.ref (g 1), .ref (g 2), .ref (g 3), .ref (g 4), .ref (g 5), .ref (g 6), .ref (g 7), .ref (g 8), .int (Pg_nameCount pr), .int (Pg_size pr), .int (Pg_lines pr)]), ((g 1), aI K 64 (Pg_code pr)), ((g 2), aI K 64 (Pg_first pr)), ((g 3), aI K 64 (Pg_second pr)), ((g 4), aI K 64 (Pg_third pr)), ((g 5), aI K 8 (Pg_rules pr)), ((g 6), aI K 32 (Pg_data pr)), ((g 7), aI K 140 (Pg_names pr)), ((g 8), aI K 140 (Pg_namedPlaces pr))]) rfl ?_
  refine r_aload_n (pc := 0) cx dX6_readName_0 0 rfl ?_
  refine r_get (pc := 1) cx cf_X6 0 10 rfl (by decide) rfl wd_262 dX6_readName_1 ?_
  refine r_iconst (pc := 4) cx dX6_readName_4 ic_1 ?_
  refine r_icmp_ne (pc := 5) (tgt := 28) cx dX6_readName_5 (by decide) (fun h1 => ?_) (fun h1 => ?_)
  · have hf := ifn h1 hf
    refine r_aload_n (pc := 28) cx dX6_readName_28 0 rfl ?_
    refine r_iconst (pc := 29) cx dX6_readName_29 ic_1 ?_
    refine r_aload_n (pc := 30) cx dX6_readName_30 0 rfl ?_
    refine r_get (pc := 31) cx cf_X6 0 12 rfl (by decide) rfl wd_264 dX6_readName_31 ?_
    obtain ⟨v2, hc3, hf⟩ := bd_of hf
    refine r_Vv (pc := 34) (ws' := [((q 0), ob 5 [.ref (q 1), .int (Rd_filled v2), .int (Rd_fault v2), .int (Rd_faultPlace v2), .ref (q 2), .ref (q 3), .ref (q 4), .ref (q 5), .int (Rd_limit v2), .int (Rd_position v2), .int (Rd_token v2), .int (Rd_value v2), .int (Rd_place v2), .int (Rd_toldRules v2), .int (Rd_toldData v2)]), ((q 1), aB K 700 (Rd_tape v2)), ((q 2), aI K 25 (Rd_words v2)), ((q 3), aI K 75 (Rd_sorts v2)), ((q 4), aI K 3 (Rd_parts v2)), ((q 5), aI K 64 (Rd_wantedPlaces v2)), ((g 0), ob 3 [.ref (g 1), .ref (g 2), .ref (g 3), .ref (g 4), .ref (g 5), .ref (g 6), .ref (g 7), .ref (g 8), .int (Pg_nameCount pr), .int (Pg_size pr), .int (Pg_lines pr)]), ((g 1), aI K 64 (Pg_code pr)), ((g 2), aI K 64 (Pg_first pr)), ((g 3), aI K 64 (Pg_second pr)), ((g 4), aI K 64 (Pg_third pr)), ((g 5), aI K 8 (Pg_rules pr)), ((g 6), aI K 32 (Pg_data pr)), ((g 7), aI K 140 (Pg_names pr)), ((g 8), aI K 140 (Pg_namedPlaces pr))]) cx [.int (1 : Int32), .int (Rd_place v)] [] [0, 1, 2, 3, 4, 5] (m_Rd_fail l D K q v (1 : Int32) (Rd_place v) hc3) yv_X6_fail wd_649 ⟨rfl, rfl⟩ (by decide) rfl rfl rfl (by decide) 0 rfl rfl rfl (Nat.le_of_ble_eq_true rfl) dX6_readName_34 ?_
    refine r_goto (pc := 37) (tgt := 109) cx dX6_readName_37 (by decide) ?_
    cases hf
    exact r_vret (pc := 109) cx rfl dX6_readName_109
  · have hf := ifp h1 hf
    refine r_aload_n (pc := 8) cx dX6_readName_8 0 rfl ?_
    refine r_get (pc := 9) cx cf_X6 0 11 rfl (by decide) rfl wd_263 dX6_readName_9 ?_
    refine r_iconst (pc := 12) cx dX6_readName_12 ic_m1 ?_
    refine r_icmp_eq (pc := 13) (tgt := 28) cx dX6_readName_13 (by decide) (fun h4 => ?_) (fun h4 => ?_)
    · have hf := ifp h4 hf
      refine r_aload_n (pc := 28) cx dX6_readName_28 0 rfl ?_
      refine r_iconst (pc := 29) cx dX6_readName_29 ic_1 ?_
      refine r_aload_n (pc := 30) cx dX6_readName_30 0 rfl ?_
      refine r_get (pc := 31) cx cf_X6 0 12 rfl (by decide) rfl wd_264 dX6_readName_31 ?_
      obtain ⟨v5, hc6, hf⟩ := bd_of hf
      refine r_Vv (pc := 34) (ws' := [((q 0), ob 5 [.ref (q 1), .int (Rd_filled v5), .int (Rd_fault v5), .int (Rd_faultPlace v5), .ref (q 2), .ref (q 3), .ref (q 4), .ref (q 5), .int (Rd_limit v5), .int (Rd_position v5), .int (Rd_token v5), .int (Rd_value v5), .int (Rd_place v5), .int (Rd_toldRules v5), .int (Rd_toldData v5)]), ((q 1), aB K 700 (Rd_tape v5)), ((q 2), aI K 25 (Rd_words v5)), ((q 3), aI K 75 (Rd_sorts v5)), ((q 4), aI K 3 (Rd_parts v5)), ((q 5), aI K 64 (Rd_wantedPlaces v5)), ((g 0), ob 3 [.ref (g 1), .ref (g 2), .ref (g 3), .ref (g 4), .ref (g 5), .ref (g 6), .ref (g 7), .ref (g 8), .int (Pg_nameCount pr), .int (Pg_size pr), .int (Pg_lines pr)]), ((g 1), aI K 64 (Pg_code pr)), ((g 2), aI K 64 (Pg_first pr)), ((g 3), aI K 64 (Pg_second pr)), ((g 4), aI K 64 (Pg_third pr)), ((g 5), aI K 8 (Pg_rules pr)), ((g 6), aI K 32 (Pg_data pr)), ((g 7), aI K 140 (Pg_names pr)), ((g 8), aI K 140 (Pg_namedPlaces pr))]) cx [.int (1 : Int32), .int (Rd_place v)] [] [0, 1, 2, 3, 4, 5] (m_Rd_fail l D K q v (1 : Int32) (Rd_place v) hc6) yv_X6_fail wd_649 ⟨rfl, rfl⟩ (by decide) rfl rfl rfl (by decide) 0 rfl rfl rfl (Nat.le_of_ble_eq_true rfl) dX6_readName_34 ?_
      refine r_goto (pc := 37) (tgt := 109) cx dX6_readName_37 (by decide) ?_
      cases hf
      exact r_vret (pc := 109) cx rfl dX6_readName_109
    · have hf := ifn h4 hf
      refine r_aload_n (pc := 16) cx dX6_readName_16 0 rfl ?_
      refine r_aload_n (pc := 17) cx dX6_readName_17 0 rfl ?_
      refine r_get (pc := 18) cx cf_X6 0 11 rfl (by decide) rfl wd_263 dX6_readName_18 ?_
      obtain ⟨r7, hc8, hf⟩ := bd_of hf
      refine r_Vi (pc := 21) (ws' := [((q 0), ob 5 [.ref (q 1), .int (Rd_filled v), .int (Rd_fault v), .int (Rd_faultPlace v), .ref (q 2), .ref (q 3), .ref (q 4), .ref (q 5), .int (Rd_limit v), .int (Rd_position v), .int (Rd_token v), .int (Rd_value v), .int (Rd_place v), .int (Rd_toldRules v), .int (Rd_toldData v)]), ((q 1), aB K 700 (Rd_tape v)), ((q 2), aI K 25 (Rd_words v)), ((q 3), aI K 75 (Rd_sorts v)), ((q 4), aI K 3 (Rd_parts v)), ((q 5), aI K 64 (Rd_wantedPlaces v)), ((g 0), ob 3 [.ref (g 1), .ref (g 2), .ref (g 3), .ref (g 4), .ref (g 5), .ref (g 6), .ref (g 7), .ref (g 8), .int (Pg_nameCount pr), .int (Pg_size pr), .int (Pg_lines pr)]), ((g 1), aI K 64 (Pg_code pr)), ((g 2), aI K 64 (Pg_first pr)), ((g 3), aI K 64 (Pg_second pr)), ((g 4), aI K 64 (Pg_third pr)), ((g 5), aI K 8 (Pg_rules pr)), ((g 6), aI K 32 (Pg_data pr)), ((g 7), aI K 140 (Pg_names pr)), ((g 8), aI K 140 (Pg_namedPlaces pr))]) cx [.int (Rd_value v)] [] [0, 1, 2, 3, 4, 5] (m_Rd_wordNumber l D K q v (Rd_value v) hc8) yv_X6_wordNumber wd_645 ⟨rfl, rfl⟩ (by decide) rfl rfl rfl (by decide) 0 rfl rfl rfl (Nat.le_of_ble_eq_true rfl) dX6_readName_21 ?_
      refine r_iconst (pc := 24) cx dX6_readName_24 ic_m1 ?_
      refine r_icmp_eq (pc := 25) (tgt := 40) cx dX6_readName_25 (by decide) (fun h9 => ?_) (fun h9 => ?_)
      · have hf := ifp h9 hf
        refine r_iload_n (pc := 40) cx dX6_readName_40 2 rfl ?_
        refine r_bipush (pc := 41) cx dX6_readName_41 bp_119 ?_
        refine r_icmp_ne (pc := 43) (tgt := 75) cx dX6_readName_43 (by decide) (fun h10 => ?_) (fun h10 => ?_)
        · have hf := ifn h10 hf
          refine r_aload_n (pc := 75) cx dX6_readName_75 1 rfl ?_
          refine r_aload_n (pc := 76) cx dX6_readName_76 0 rfl ?_
          refine r_get (pc := 77) cx cf_X6 0 11 rfl (by decide) rfl wd_263 dX6_readName_77 ?_
          obtain ⟨r11, hc12, hf⟩ := bd_of hf
          refine r_Vi (pc := 80) (ws' := [((q 0), ob 5 [.ref (q 1), .int (Rd_filled v), .int (Rd_fault v), .int (Rd_faultPlace v), .ref (q 2), .ref (q 3), .ref (q 4), .ref (q 5), .int (Rd_limit v), .int (Rd_position v), .int (Rd_token v), .int (Rd_value v), .int (Rd_place v), .int (Rd_toldRules v), .int (Rd_toldData v)]), ((q 1), aB K 700 (Rd_tape v)), ((q 2), aI K 25 (Rd_words v)), ((q 3), aI K 75 (Rd_sorts v)), ((q 4), aI K 3 (Rd_parts v)), ((q 5), aI K 64 (Rd_wantedPlaces v)), ((g 0), ob 3 [.ref (g 1), .ref (g 2), .ref (g 3), .ref (g 4), .ref (g 5), .ref (g 6), .ref (g 7), .ref (g 8), .int (Pg_nameCount pr), .int (Pg_size pr), .int (Pg_lines pr)]), ((g 1), aI K 64 (Pg_code pr)), ((g 2), aI K 64 (Pg_first pr)), ((g 3), aI K 64 (Pg_second pr)), ((g 4), aI K 64 (Pg_third pr)), ((g 5), aI K 8 (Pg_rules pr)), ((g 6), aI K 32 (Pg_data pr)), ((g 7), aI K 140 (Pg_names pr)), ((g 8), aI K 140 (Pg_namedPlaces pr))]) cx [.int (Rd_value v)] [] [6, 7, 8, 9, 10, 11, 12, 13, 14] (m_Pg_placeOf l D K g pr (Rd_value v) hc12) yv_X4_placeOf wd_665 ⟨rfl, rfl⟩ (by decide) rfl rfl rfl (by decide) 6 rfl rfl rfl (Nat.le_of_ble_eq_true rfl) dX6_readName_80 ?_
          refine r_iconst (pc := 83) cx dX6_readName_83 ic_m1 ?_
          refine r_icmp_eq (pc := 84) (tgt := 99) cx dX6_readName_84 (by decide) (fun h13 => ?_) (fun h13 => ?_)
          · have hf := ifp h13 hf
            refine r_aload_n (pc := 99) cx dX6_readName_99 0 rfl ?_
            refine r_get (pc := 100) cx cf_X6 0 6 rfl (by decide) rfl wd_258 dX6_readName_100 ?_
            refine r_iconst (pc := 103) cx dX6_readName_103 ic_0 ?_
            refine r_aload_n (pc := 104) cx dX6_readName_104 0 rfl ?_
            refine r_get (pc := 105) cx cf_X6 0 11 rfl (by decide) rfl wd_263 dX6_readName_105 ?_
            obtain ⟨x14, ex14, hf⟩ := nm_of hf
            refine r_nm ex14 ?_
            obtain ⟨f15, ef15, hf⟩ := nm_of hf
            refine r_iast (pc := 108) (ws' := [((q 0), ob 5 [.ref (q 1), .int (Rd_filled v), .int (Rd_fault v), .int (Rd_faultPlace v), .ref (q 2), .ref (q 3), .ref (q 4), .ref (q 5), .int (Rd_limit v), .int (Rd_position v), .int (Rd_token v), .int (Rd_value v), .int (Rd_place v), .int (Rd_toldRules v), .int (Rd_toldData v)]), ((q 1), aB K 700 (Rd_tape v)), ((q 2), aI K 25 (Rd_words v)), ((q 3), aI K 75 (Rd_sorts v)), ((q 4), aI K 3 f15), ((q 5), aI K 64 (Rd_wantedPlaces v)), ((g 0), ob 3 [.ref (g 1), .ref (g 2), .ref (g 3), .ref (g 4), .ref (g 5), .ref (g 6), .ref (g 7), .ref (g 8), .int (Pg_nameCount pr), .int (Pg_size pr), .int (Pg_lines pr)]), ((g 1), aI K 64 (Pg_code pr)), ((g 2), aI K 64 (Pg_first pr)), ((g 3), aI K 64 (Pg_second pr)), ((g 4), aI K 64 (Pg_third pr)), ((g 5), aI K 8 (Pg_rules pr)), ((g 6), aI K 32 (Pg_data pr)), ((g 7), aI K 140 (Pg_names pr)), ((g 8), aI K 140 (Pg_namedPlaces pr))]) cx 4 rfl (by decide) dX6_readName_108 ef15 rfl ?_
            cases hf
            exact r_vret (pc := 109) cx rfl dX6_readName_109
          · have hf := ifn h13 hf
            refine r_aload_n (pc := 87) cx dX6_readName_87 0 rfl ?_
            refine r_iconst (pc := 88) cx dX6_readName_88 ic_3 ?_
            refine r_aload_n (pc := 89) cx dX6_readName_89 0 rfl ?_
            refine r_get (pc := 90) cx cf_X6 0 12 rfl (by decide) rfl wd_264 dX6_readName_90 ?_
            obtain ⟨v16, hc17, hf⟩ := bd_of hf
            refine r_Vv (pc := 93) (ws' := [((q 0), ob 5 [.ref (q 1), .int (Rd_filled v16), .int (Rd_fault v16), .int (Rd_faultPlace v16), .ref (q 2), .ref (q 3), .ref (q 4), .ref (q 5), .int (Rd_limit v16), .int (Rd_position v16), .int (Rd_token v16), .int (Rd_value v16), .int (Rd_place v16), .int (Rd_toldRules v16), .int (Rd_toldData v16)]), ((q 1), aB K 700 (Rd_tape v16)), ((q 2), aI K 25 (Rd_words v16)), ((q 3), aI K 75 (Rd_sorts v16)), ((q 4), aI K 3 (Rd_parts v16)), ((q 5), aI K 64 (Rd_wantedPlaces v16)), ((g 0), ob 3 [.ref (g 1), .ref (g 2), .ref (g 3), .ref (g 4), .ref (g 5), .ref (g 6), .ref (g 7), .ref (g 8), .int (Pg_nameCount pr), .int (Pg_size pr), .int (Pg_lines pr)]), ((g 1), aI K 64 (Pg_code pr)), ((g 2), aI K 64 (Pg_first pr)), ((g 3), aI K 64 (Pg_second pr)), ((g 4), aI K 64 (Pg_third pr)), ((g 5), aI K 8 (Pg_rules pr)), ((g 6), aI K 32 (Pg_data pr)), ((g 7), aI K 140 (Pg_names pr)), ((g 8), aI K 140 (Pg_namedPlaces pr))]) cx [.int (3 : Int32), .int (Rd_place v)] [] [0, 1, 2, 3, 4, 5] (m_Rd_fail l D K q v (3 : Int32) (Rd_place v) hc17) yv_X6_fail wd_649 ⟨rfl, rfl⟩ (by decide) rfl rfl rfl (by decide) 0 rfl rfl rfl (Nat.le_of_ble_eq_true rfl) dX6_readName_93 ?_
            refine r_goto (pc := 96) (tgt := 109) cx dX6_readName_96 (by decide) ?_
            cases hf
            exact r_vret (pc := 109) cx rfl dX6_readName_109
        · have hf := ifp h10 hf
          refine r_aload_n (pc := 46) cx dX6_readName_46 0 rfl ?_
          refine r_get (pc := 47) cx cf_X6 0 7 rfl (by decide) rfl wd_259 dX6_readName_47 ?_
          refine r_aload_n (pc := 50) cx dX6_readName_50 1 rfl ?_
          refine r_get (pc := 51) cx cf_X4 6 9 rfl (by decide) rfl wd_156 dX6_readName_51 ?_
          refine r_bipush (pc := 54) cx dX6_readName_54 bp_63 ?_
          refine r_iand (pc := 56) cx dX6_readName_56 ?_
          refine r_aload_n (pc := 57) cx dX6_readName_57 0 rfl ?_
          refine r_get (pc := 58) cx cf_X6 0 12 rfl (by decide) rfl wd_264 dX6_readName_58 ?_
          obtain ⟨x18, ex18, hf⟩ := nm_of hf
          refine r_nm ex18 ?_
          obtain ⟨f19, ef19, hf⟩ := nm_of hf
          refine r_iast (pc := 61) (ws' := [((q 0), ob 5 [.ref (q 1), .int (Rd_filled v), .int (Rd_fault v), .int (Rd_faultPlace v), .ref (q 2), .ref (q 3), .ref (q 4), .ref (q 5), .int (Rd_limit v), .int (Rd_position v), .int (Rd_token v), .int (Rd_value v), .int (Rd_place v), .int (Rd_toldRules v), .int (Rd_toldData v)]), ((q 1), aB K 700 (Rd_tape v)), ((q 2), aI K 25 (Rd_words v)), ((q 3), aI K 75 (Rd_sorts v)), ((q 4), aI K 3 (Rd_parts v)), ((q 5), aI K 64 f19), ((g 0), ob 3 [.ref (g 1), .ref (g 2), .ref (g 3), .ref (g 4), .ref (g 5), .ref (g 6), .ref (g 7), .ref (g 8), .int (Pg_nameCount pr), .int (Pg_size pr), .int (Pg_lines pr)]), ((g 1), aI K 64 (Pg_code pr)), ((g 2), aI K 64 (Pg_first pr)), ((g 3), aI K 64 (Pg_second pr)), ((g 4), aI K 64 (Pg_third pr)), ((g 5), aI K 8 (Pg_rules pr)), ((g 6), aI K 32 (Pg_data pr)), ((g 7), aI K 140 (Pg_names pr)), ((g 8), aI K 140 (Pg_namedPlaces pr))]) cx 5 rfl (ix_and63 _) dX6_readName_61 ef19 rfl ?_
          refine r_aload_n (pc := 62) cx dX6_readName_62 0 rfl ?_
          refine r_get (pc := 63) cx cf_X6 0 6 rfl (by decide) rfl wd_258 dX6_readName_63 ?_
          refine r_iconst (pc := 66) cx dX6_readName_66 ic_2 ?_
          refine r_aload_n (pc := 67) cx dX6_readName_67 0 rfl ?_
          refine r_get (pc := 68) cx cf_X6 0 11 rfl (by decide) rfl wd_263 dX6_readName_68 ?_
          obtain ⟨x20, ex20, hf⟩ := nm_of hf
          refine r_nm ex20 ?_
          obtain ⟨f21, ef21, hf⟩ := nm_of hf
          refine r_iast (pc := 71) (ws' := [((q 0), ob 5 [.ref (q 1), .int (Rd_filled v), .int (Rd_fault v), .int (Rd_faultPlace v), .ref (q 2), .ref (q 3), .ref (q 4), .ref (q 5), .int (Rd_limit v), .int (Rd_position v), .int (Rd_token v), .int (Rd_value v), .int (Rd_place v), .int (Rd_toldRules v), .int (Rd_toldData v)]), ((q 1), aB K 700 (Rd_tape v)), ((q 2), aI K 25 (Rd_words v)), ((q 3), aI K 75 (Rd_sorts v)), ((q 4), aI K 3 f21), ((q 5), aI K 64 f19), ((g 0), ob 3 [.ref (g 1), .ref (g 2), .ref (g 3), .ref (g 4), .ref (g 5), .ref (g 6), .ref (g 7), .ref (g 8), .int (Pg_nameCount pr), .int (Pg_size pr), .int (Pg_lines pr)]), ((g 1), aI K 64 (Pg_code pr)), ((g 2), aI K 64 (Pg_first pr)), ((g 3), aI K 64 (Pg_second pr)), ((g 4), aI K 64 (Pg_third pr)), ((g 5), aI K 8 (Pg_rules pr)), ((g 6), aI K 32 (Pg_data pr)), ((g 7), aI K 140 (Pg_names pr)), ((g 8), aI K 140 (Pg_namedPlaces pr))]) cx 4 rfl (by decide) dX6_readName_71 ef21 rfl ?_
          refine r_goto (pc := 72) (tgt := 109) cx dX6_readName_72 (by decide) ?_
          cases hf
          exact r_vret (pc := 109) cx rfl dX6_readName_109
      · have hf := ifn h9 hf
        refine r_aload_n (pc := 28) cx dX6_readName_28 0 rfl ?_
        refine r_iconst (pc := 29) cx dX6_readName_29 ic_1 ?_
        refine r_aload_n (pc := 30) cx dX6_readName_30 0 rfl ?_
        refine r_get (pc := 31) cx cf_X6 0 12 rfl (by decide) rfl wd_264 dX6_readName_31 ?_
        obtain ⟨v22, hc23, hf⟩ := bd_of hf
        refine r_Vv (pc := 34) (ws' := [((q 0), ob 5 [.ref (q 1), .int (Rd_filled v22), .int (Rd_fault v22), .int (Rd_faultPlace v22), .ref (q 2), .ref (q 3), .ref (q 4), .ref (q 5), .int (Rd_limit v22), .int (Rd_position v22), .int (Rd_token v22), .int (Rd_value v22), .int (Rd_place v22), .int (Rd_toldRules v22), .int (Rd_toldData v22)]), ((q 1), aB K 700 (Rd_tape v22)), ((q 2), aI K 25 (Rd_words v22)), ((q 3), aI K 75 (Rd_sorts v22)), ((q 4), aI K 3 (Rd_parts v22)), ((q 5), aI K 64 (Rd_wantedPlaces v22)), ((g 0), ob 3 [.ref (g 1), .ref (g 2), .ref (g 3), .ref (g 4), .ref (g 5), .ref (g 6), .ref (g 7), .ref (g 8), .int (Pg_nameCount pr), .int (Pg_size pr), .int (Pg_lines pr)]), ((g 1), aI K 64 (Pg_code pr)), ((g 2), aI K 64 (Pg_first pr)), ((g 3), aI K 64 (Pg_second pr)), ((g 4), aI K 64 (Pg_third pr)), ((g 5), aI K 8 (Pg_rules pr)), ((g 6), aI K 32 (Pg_data pr)), ((g 7), aI K 140 (Pg_names pr)), ((g 8), aI K 140 (Pg_namedPlaces pr))]) cx [.int (1 : Int32), .int (Rd_place v)] [] [0, 1, 2, 3, 4, 5] (m_Rd_fail l D K q v (1 : Int32) (Rd_place v) hc23) yv_X6_fail wd_649 ⟨rfl, rfl⟩ (by decide) rfl rfl rfl (by decide) 0 rfl rfl rfl (Nat.le_of_ble_eq_true rfl) dX6_readName_34 ?_
        refine r_goto (pc := 37) (tgt := 109) cx dX6_readName_37 (by decide) ?_
        cases hf
        exact r_vret (pc := 109) cx rfl dX6_readName_109
theorem yv_X6_readName : YV yX6_readName cX6_readName 3 (none) 2 := ⟨⟨by decide +kernel, by decide +kernel, by decide +kernel⟩, wd_664, wd_90, wd_663, wd_10⟩
def f_Rd_least (v : T_Rd) (a1 : Int32) : Option (Int32) :=
  (if a1 = (104 : Int32) then (some (((Rd_parts v) (0 : Int32).toNatClampNeg) + (1 : Int32))) else (if a1 = (115 : Int32) then (some (1 : Int32)) else (if a1 = (113 : Int32) then (some (1 : Int32)) else (if a1 = (116 : Int32) then (some (1 : Int32)) else (some (0 : Int32))))))
abbrev rm_Rd_least : Room := { frames := 0, cells := 0, slots := 0, locals := 0 }
set_option maxRecDepth 100000 in
set_option maxHeartbeats 4000000 in
theorem m_Rd_least (l : Launch) (D : va_G) (K : Nat → ClassId) (q : Nat → Nat) (v : T_Rd) (a1 : Int32) {r_ : Int32} (hf : f_Rd_least v a1 = some r_) : MI l yX6_least cX6_least 2 (some .int) rm_Rd_least D K [.ref (q 0), .int a1] (cl_Rd K q v) r_ (cl_Rd K q v) := by
  refine MI_of (loc0 := [(0, .ref (q 0)), (1, .int a1)]) (by decide +kernel) rfl (Nat.le_of_ble_eq_true rfl) ?_
  intro p e s m args below meth c A cx
  unfold f_Rd_least at hf
  refine r_ws (ws' := [((q 0), ob 5 [.ref (q 1), .int (Rd_filled v), .int (Rd_fault v), .int (Rd_faultPlace v), .ref (q 2), .ref (q 3), .ref (q 4), .ref (q 5), .int (Rd_limit v), .int (Rd_position v), .int (Rd_token v), .int (Rd_value v), .int (Rd_place v), .int (Rd_toldRules v), .int (Rd_toldData v)]), ((q 1), aB K 700 (Rd_tape v)), ((q 2), aI K 25 (Rd_words v)), ((q 3), aI K 75 (Rd_sorts v)), ((q 4), aI K 3 (Rd_parts v)), ((q 5), aI K 64 (Rd_wantedPlaces v))]) rfl ?_
  refine r_iload_n (pc := 0) cx dX6_least_0 1 rfl ?_
  refine r_bipush (pc := 1) cx dX6_least_1 bp_104 ?_
  refine r_icmp_ne (pc := 3) (tgt := 15) cx dX6_least_3 (by decide) (fun h1 => ?_) (fun h1 => ?_)
  · have hf := ifn h1 hf
    refine r_iload_n (pc := 15) cx dX6_least_15 1 rfl ?_
    refine r_bipush (pc := 16) cx dX6_least_16 bp_115 ?_
    refine r_icmp_eq (pc := 18) (tgt := 33) cx dX6_least_18 (by decide) (fun h2 => ?_) (fun h2 => ?_)
    · have hf := ifp h2 hf
      refine r_iconst (pc := 33) cx dX6_least_33 ic_1 ?_
      refine r_goto (pc := 34) (tgt := 38) cx dX6_least_34 (by decide) ?_
      cases hf
      exact r_iret (pc := 38) cx rfl rfl dX6_least_38
    · have hf := ifn h2 hf
      refine r_iload_n (pc := 21) cx dX6_least_21 1 rfl ?_
      refine r_bipush (pc := 22) cx dX6_least_22 bp_113 ?_
      refine r_icmp_eq (pc := 24) (tgt := 33) cx dX6_least_24 (by decide) (fun h3 => ?_) (fun h3 => ?_)
      · have hf := ifp h3 hf
        refine r_iconst (pc := 33) cx dX6_least_33 ic_1 ?_
        refine r_goto (pc := 34) (tgt := 38) cx dX6_least_34 (by decide) ?_
        cases hf
        exact r_iret (pc := 38) cx rfl rfl dX6_least_38
      · have hf := ifn h3 hf
        refine r_iload_n (pc := 27) cx dX6_least_27 1 rfl ?_
        refine r_bipush (pc := 28) cx dX6_least_28 bp_116 ?_
        refine r_icmp_ne (pc := 30) (tgt := 37) cx dX6_least_30 (by decide) (fun h4 => ?_) (fun h4 => ?_)
        · have hf := ifn h4 hf
          refine r_iconst (pc := 37) cx dX6_least_37 ic_0 ?_
          cases hf
          exact r_iret (pc := 38) cx rfl rfl dX6_least_38
        · have hf := ifp h4 hf
          refine r_iconst (pc := 33) cx dX6_least_33 ic_1 ?_
          refine r_goto (pc := 34) (tgt := 38) cx dX6_least_34 (by decide) ?_
          cases hf
          exact r_iret (pc := 38) cx rfl rfl dX6_least_38
  · have hf := ifp h1 hf
    refine r_aload_n (pc := 6) cx dX6_least_6 0 rfl ?_
    refine r_get (pc := 7) cx cf_X6 0 6 rfl (by decide) rfl wd_258 dX6_least_7 ?_
    refine r_iconst (pc := 10) cx dX6_least_10 ic_0 ?_
    refine r_iald (pc := 11) cx 4 rfl (by decide) dX6_least_11 ?_
    refine r_iconst (pc := 12) cx dX6_least_12 ic_1 ?_
    refine r_iadd (pc := 13) cx dX6_least_13 ?_
    cases hf
    exact r_iret (pc := 14) cx rfl rfl dX6_least_14
theorem yv_X6_least : YV yX6_least cX6_least 2 (some .int) 1 := ⟨⟨by decide +kernel, by decide +kernel, by decide +kernel⟩, wd_672, wd_90, wd_671, wd_11⟩
def f_Rd_greatest (a0 : Int32) : Option (Int32) :=
  (if a0 = (100 : Int32) then (some (31 : Int32)) else (if a0 = (101 : Int32) then (some (99999 : Int32)) else (if a0 = (102 : Int32) then (some (3 : Int32)) else (if a0 = (103 : Int32) then (some (99999 : Int32)) else (if a0 = (104 : Int32) then (some (9 : Int32)) else (if a0 = (105 : Int32) then (some (99999 : Int32)) else (if a0 = (106 : Int32) then (some (99999 : Int32)) else (if a0 = (107 : Int32) then (some (99999 : Int32)) else (if a0 = (108 : Int32) then (some (8 : Int32)) else (if a0 = (109 : Int32) then (some (31 : Int32)) else (if a0 = (110 : Int32) then (some (99999 : Int32)) else (if a0 = (111 : Int32) then (some (99999 : Int32)) else (if a0 = (112 : Int32) then (some (99999 : Int32)) else (if a0 = (113 : Int32) then (some (8 : Int32)) else (if a0 = (114 : Int32) then (some (7 : Int32)) else (if a0 = (115 : Int32) then (some (40 : Int32)) else (if a0 = (116 : Int32) then (some (9 : Int32)) else (some (99999 : Int32)))))))))))))))))))
abbrev rm_Rd_greatest : Room := { frames := 0, cells := 0, slots := 0, locals := 0 }
set_option maxRecDepth 100000 in
set_option maxHeartbeats 4000000 in
theorem m_Rd_greatest (l : Launch) (D : va_G) (K : Nat → ClassId) (a0 : Int32) {r_ : Int32} (hf : f_Rd_greatest a0 = some r_) : MI l yX6_greatest cX6_greatest 1 (some .int) rm_Rd_greatest D K [.int a0] ([]) r_ ([]) := by
  refine MI_of (loc0 := [(0, .int a0)]) (by decide +kernel) rfl (Nat.le_of_ble_eq_true rfl) ?_
  intro p e s m args below meth c A cx
  unfold f_Rd_greatest at hf
  refine r_ws (ws' := []) rfl ?_
  refine r_iload_n (pc := 0) cx dX6_greatest_0 0 rfl ?_
  by_cases h1 : a0 = (100 : Int32)
  · have hf := ifp h1 hf
    refine r_tin (pc := 1) (tgt := 93) cx (100 : Int32) h1 dX6_greatest_1 (by decide) (by decide) rfl (by decide) ?_
    refine r_bipush (pc := 93) cx dX6_greatest_93 bp_31 ?_
    cases hf
    exact r_iret (pc := 95) cx rfl rfl dX6_greatest_95
  · have hf := ifn h1 hf
    by_cases h3 : a0 = (101 : Int32)
    · have hf := ifp h3 hf
      refine r_tin (pc := 1) (tgt := 101) cx (101 : Int32) h3 dX6_greatest_1 (by decide) (by decide) rfl (by decide) ?_
      refine r_ldc (pc := 101) cx dX6_greatest_101 wd_676 ?_
      cases hf
      exact r_iret (pc := 103) cx rfl rfl dX6_greatest_103
    · have hf := ifn h3 hf
      by_cases h4 : a0 = (102 : Int32)
      · have hf := ifp h4 hf
        refine r_tin (pc := 1) (tgt := 99) cx (102 : Int32) h4 dX6_greatest_1 (by decide) (by decide) rfl (by decide) ?_
        refine r_iconst (pc := 99) cx dX6_greatest_99 ic_3 ?_
        cases hf
        exact r_iret (pc := 100) cx rfl rfl dX6_greatest_100
      · have hf := ifn h4 hf
        by_cases h6 : a0 = (103 : Int32)
        · have hf := ifp h6 hf
          refine r_tin (pc := 1) (tgt := 101) cx (103 : Int32) h6 dX6_greatest_1 (by decide) (by decide) rfl (by decide) ?_
          refine r_ldc (pc := 101) cx dX6_greatest_101 wd_676 ?_
          cases hf
          exact r_iret (pc := 103) cx rfl rfl dX6_greatest_103
        · have hf := ifn h6 hf
          by_cases h7 : a0 = (104 : Int32)
          · have hf := ifp h7 hf
            refine r_tin (pc := 1) (tgt := 90) cx (104 : Int32) h7 dX6_greatest_1 (by decide) (by decide) rfl (by decide) ?_
            refine r_bipush (pc := 90) cx dX6_greatest_90 bp_9 ?_
            cases hf
            exact r_iret (pc := 92) cx rfl rfl dX6_greatest_92
          · have hf := ifn h7 hf
            by_cases h9 : a0 = (105 : Int32)
            · have hf := ifp h9 hf
              refine r_tin (pc := 1) (tgt := 101) cx (105 : Int32) h9 dX6_greatest_1 (by decide) (by decide) rfl (by decide) ?_
              refine r_ldc (pc := 101) cx dX6_greatest_101 wd_676 ?_
              cases hf
              exact r_iret (pc := 103) cx rfl rfl dX6_greatest_103
            · have hf := ifn h9 hf
              by_cases h11 : a0 = (106 : Int32)
              · have hf := ifp h11 hf
                refine r_tin (pc := 1) (tgt := 101) cx (106 : Int32) h11 dX6_greatest_1 (by decide) (by decide) rfl (by decide) ?_
                refine r_ldc (pc := 101) cx dX6_greatest_101 wd_676 ?_
                cases hf
                exact r_iret (pc := 103) cx rfl rfl dX6_greatest_103
              · have hf := ifn h11 hf
                by_cases h13 : a0 = (107 : Int32)
                · have hf := ifp h13 hf
                  refine r_tin (pc := 1) (tgt := 101) cx (107 : Int32) h13 dX6_greatest_1 (by decide) (by decide) rfl (by decide) ?_
                  refine r_ldc (pc := 101) cx dX6_greatest_101 wd_676 ?_
                  cases hf
                  exact r_iret (pc := 103) cx rfl rfl dX6_greatest_103
                · have hf := ifn h13 hf
                  by_cases h14 : a0 = (108 : Int32)
                  · have hf := ifp h14 hf
                    refine r_tin (pc := 1) (tgt := 87) cx (108 : Int32) h14 dX6_greatest_1 (by decide) (by decide) rfl (by decide) ?_
                    refine r_bipush (pc := 87) cx dX6_greatest_87 bp_8 ?_
                    cases hf
                    exact r_iret (pc := 89) cx rfl rfl dX6_greatest_89
                  · have hf := ifn h14 hf
                    by_cases h15 : a0 = (109 : Int32)
                    · have hf := ifp h15 hf
                      refine r_tin (pc := 1) (tgt := 93) cx (109 : Int32) h15 dX6_greatest_1 (by decide) (by decide) rfl (by decide) ?_
                      refine r_bipush (pc := 93) cx dX6_greatest_93 bp_31 ?_
                      cases hf
                      exact r_iret (pc := 95) cx rfl rfl dX6_greatest_95
                    · have hf := ifn h15 hf
                      by_cases h17 : a0 = (110 : Int32)
                      · have hf := ifp h17 hf
                        refine r_tin (pc := 1) (tgt := 101) cx (110 : Int32) h17 dX6_greatest_1 (by decide) (by decide) rfl (by decide) ?_
                        refine r_ldc (pc := 101) cx dX6_greatest_101 wd_676 ?_
                        cases hf
                        exact r_iret (pc := 103) cx rfl rfl dX6_greatest_103
                      · have hf := ifn h17 hf
                        by_cases h19 : a0 = (111 : Int32)
                        · have hf := ifp h19 hf
                          refine r_tin (pc := 1) (tgt := 101) cx (111 : Int32) h19 dX6_greatest_1 (by decide) (by decide) rfl (by decide) ?_
                          refine r_ldc (pc := 101) cx dX6_greatest_101 wd_676 ?_
                          cases hf
                          exact r_iret (pc := 103) cx rfl rfl dX6_greatest_103
                        · have hf := ifn h19 hf
                          by_cases h21 : a0 = (112 : Int32)
                          · have hf := ifp h21 hf
                            refine r_tin (pc := 1) (tgt := 101) cx (112 : Int32) h21 dX6_greatest_1 (by decide) (by decide) rfl (by decide) ?_
                            refine r_ldc (pc := 101) cx dX6_greatest_101 wd_676 ?_
                            cases hf
                            exact r_iret (pc := 103) cx rfl rfl dX6_greatest_103
                          · have hf := ifn h21 hf
                            by_cases h22 : a0 = (113 : Int32)
                            · have hf := ifp h22 hf
                              refine r_tin (pc := 1) (tgt := 87) cx (113 : Int32) h22 dX6_greatest_1 (by decide) (by decide) rfl (by decide) ?_
                              refine r_bipush (pc := 87) cx dX6_greatest_87 bp_8 ?_
                              cases hf
                              exact r_iret (pc := 89) cx rfl rfl dX6_greatest_89
                            · have hf := ifn h22 hf
                              by_cases h23 : a0 = (114 : Int32)
                              · have hf := ifp h23 hf
                                refine r_tin (pc := 1) (tgt := 96) cx (114 : Int32) h23 dX6_greatest_1 (by decide) (by decide) rfl (by decide) ?_
                                refine r_bipush (pc := 96) cx dX6_greatest_96 bp_7 ?_
                                cases hf
                                exact r_iret (pc := 98) cx rfl rfl dX6_greatest_98
                              · have hf := ifn h23 hf
                                by_cases h24 : a0 = (115 : Int32)
                                · have hf := ifp h24 hf
                                  refine r_tin (pc := 1) (tgt := 84) cx (115 : Int32) h24 dX6_greatest_1 (by decide) (by decide) rfl (by decide) ?_
                                  refine r_bipush (pc := 84) cx dX6_greatest_84 bp_40 ?_
                                  cases hf
                                  exact r_iret (pc := 86) cx rfl rfl dX6_greatest_86
                                · have hf := ifn h24 hf
                                  by_cases h25 : a0 = (116 : Int32)
                                  · have hf := ifp h25 hf
                                    refine r_tin (pc := 1) (tgt := 90) cx (116 : Int32) h25 dX6_greatest_1 (by decide) (by decide) rfl (by decide) ?_
                                    refine r_bipush (pc := 90) cx dX6_greatest_90 bp_9 ?_
                                    cases hf
                                    exact r_iret (pc := 92) cx rfl rfl dX6_greatest_92
                                  · have hf := ifn h25 hf
                                    refine r_tout (pc := 1) (tgt := 101) cx dX6_greatest_1 (by
                                      have nh1 := toInt_ne h1
                                      have mh1 : (100 : Int32).toInt = 100 := by decide
                                      rw [mh1] at nh1
                                      have nh3 := toInt_ne h3
                                      have mh3 : (101 : Int32).toInt = 101 := by decide
                                      rw [mh3] at nh3
                                      have nh4 := toInt_ne h4
                                      have mh4 : (102 : Int32).toInt = 102 := by decide
                                      rw [mh4] at nh4
                                      have nh6 := toInt_ne h6
                                      have mh6 : (103 : Int32).toInt = 103 := by decide
                                      rw [mh6] at nh6
                                      have nh7 := toInt_ne h7
                                      have mh7 : (104 : Int32).toInt = 104 := by decide
                                      rw [mh7] at nh7
                                      have nh9 := toInt_ne h9
                                      have mh9 : (105 : Int32).toInt = 105 := by decide
                                      rw [mh9] at nh9
                                      have nh11 := toInt_ne h11
                                      have mh11 : (106 : Int32).toInt = 106 := by decide
                                      rw [mh11] at nh11
                                      have nh13 := toInt_ne h13
                                      have mh13 : (107 : Int32).toInt = 107 := by decide
                                      rw [mh13] at nh13
                                      have nh14 := toInt_ne h14
                                      have mh14 : (108 : Int32).toInt = 108 := by decide
                                      rw [mh14] at nh14
                                      have nh15 := toInt_ne h15
                                      have mh15 : (109 : Int32).toInt = 109 := by decide
                                      rw [mh15] at nh15
                                      have nh17 := toInt_ne h17
                                      have mh17 : (110 : Int32).toInt = 110 := by decide
                                      rw [mh17] at nh17
                                      have nh19 := toInt_ne h19
                                      have mh19 : (111 : Int32).toInt = 111 := by decide
                                      rw [mh19] at nh19
                                      have nh21 := toInt_ne h21
                                      have mh21 : (112 : Int32).toInt = 112 := by decide
                                      rw [mh21] at nh21
                                      have nh22 := toInt_ne h22
                                      have mh22 : (113 : Int32).toInt = 113 := by decide
                                      rw [mh22] at nh22
                                      have nh23 := toInt_ne h23
                                      have mh23 : (114 : Int32).toInt = 114 := by decide
                                      rw [mh23] at nh23
                                      have nh24 := toInt_ne h24
                                      have mh24 : (115 : Int32).toInt = 115 := by decide
                                      rw [mh24] at nh24
                                      have nh25 := toInt_ne h25
                                      have mh25 : (116 : Int32).toInt = 116 := by decide
                                      rw [mh25] at nh25
                                      omega) (by decide) ?_
                                    refine r_ldc (pc := 101) cx dX6_greatest_101 wd_676 ?_
                                    cases hf
                                    exact r_iret (pc := 103) cx rfl rfl dX6_greatest_103
theorem ys_X6_greatest : YS yX6_greatest cX6_greatest 1 (some .int) 1 := ⟨⟨by decide +kernel, by decide +kernel, by decide +kernel⟩, wd_675, wd_90, wd_674⟩
def f_Rd_readPart (v : T_Rd) (pr : T_Pg) (a2 : Int32) (a3 : Int32) : Option (T_Rd) :=
  (if a2 = (110 : Int32) then (bd (f_Rd_readName v pr a2) fun (v2 : T_Rd) => (some v2)) else (if a2 = (119 : Int32) then (bd (f_Rd_readName v pr a2) fun (v40 : T_Rd) => (some v40)) else (if (Rd_token v) = (2 : Int32) then (bd (f_Rd_least v a2) fun (r6 : Int32) => (if (Rd_value v) < r6 then (bd (f_Rd_fail v (2 : Int32) (Rd_place v)) fun (v9 : T_Rd) => (some v9)) else (bd (f_Rd_greatest a2) fun (r11 : Int32) => (if (Rd_value v) ≤ r11 then (if a2 = (100 : Int32) then (if (((Rd_toldData v) >>> ((Rd_value v) &&& 31)) &&& (1 : Int32)) = (1 : Int32) then (bd (f_Rd_fail v (3 : Int32) (Rd_place v)) fun (v34 : T_Rd) => (some v34)) else (nm (fun (y25 : Int32) => ((nm ((Rd_toldData v) ||| y25) fun (x27 : Int32) => (if a3 < (0 : Int32) then (some ((Rd_tape v), (Rd_filled v), (Rd_fault v), (Rd_faultPlace v), (Rd_words v), (Rd_sorts v), (Rd_parts v), (Rd_wantedPlaces v), (Rd_limit v), (Rd_position v), (Rd_token v), (Rd_value v), (Rd_place v), (Rd_toldRules v), x27)) else (if (3 : Int32) ≤ a3 then (some ((Rd_tape v), (Rd_filled v), (Rd_fault v), (Rd_faultPlace v), (Rd_words v), (Rd_sorts v), (Rd_parts v), (Rd_wantedPlaces v), (Rd_limit v), (Rd_position v), (Rd_token v), (Rd_value v), (Rd_place v), (Rd_toldRules v), x27)) else (nm (Rd_value v) fun (x30 : Int32) => (if ix a3 3 then (nm (upd (Rd_parts v) a3.toNatClampNeg x30) fun (f32 : Nat → Int32) => (some ((Rd_tape v), (Rd_filled v), (Rd_fault v), (Rd_faultPlace v), (Rd_words v), (Rd_sorts v), f32, (Rd_wantedPlaces v), (Rd_limit v), (Rd_position v), (Rd_token v), (Rd_value v), (Rd_place v), (Rd_toldRules v), x27))) else none))))) : Option (T_Rd))) fun J26 => (if a2 = (100 : Int32) then (J26 ((1 : Int32) <<< ((Rd_value v) &&& 31))) else (J26 (0 : Int32))))) else (nm (fun (y15 : Int32) => ((nm ((Rd_toldData v) ||| y15) fun (x17 : Int32) => (if a3 < (0 : Int32) then (some ((Rd_tape v), (Rd_filled v), (Rd_fault v), (Rd_faultPlace v), (Rd_words v), (Rd_sorts v), (Rd_parts v), (Rd_wantedPlaces v), (Rd_limit v), (Rd_position v), (Rd_token v), (Rd_value v), (Rd_place v), (Rd_toldRules v), x17)) else (if (3 : Int32) ≤ a3 then (some ((Rd_tape v), (Rd_filled v), (Rd_fault v), (Rd_faultPlace v), (Rd_words v), (Rd_sorts v), (Rd_parts v), (Rd_wantedPlaces v), (Rd_limit v), (Rd_position v), (Rd_token v), (Rd_value v), (Rd_place v), (Rd_toldRules v), x17)) else (nm (Rd_value v) fun (x20 : Int32) => (if ix a3 3 then (nm (upd (Rd_parts v) a3.toNatClampNeg x20) fun (f22 : Nat → Int32) => (some ((Rd_tape v), (Rd_filled v), (Rd_fault v), (Rd_faultPlace v), (Rd_words v), (Rd_sorts v), f22, (Rd_wantedPlaces v), (Rd_limit v), (Rd_position v), (Rd_token v), (Rd_value v), (Rd_place v), (Rd_toldRules v), x17))) else none))))) : Option (T_Rd))) fun J16 => (if a2 = (100 : Int32) then (J16 ((1 : Int32) <<< ((Rd_value v) &&& 31))) else (J16 (0 : Int32))))) else (bd (f_Rd_fail v (2 : Int32) (Rd_place v)) fun (v36 : T_Rd) => (some v36)))))) else (bd (f_Rd_fail v (1 : Int32) (Rd_place v)) fun (v38 : T_Rd) => (some v38)))))
abbrev rm_Rd_readPart : Room := { frames := 2, cells := 0, slots := 0, locals := 44 }
set_option maxRecDepth 100000 in
set_option maxHeartbeats 4000000 in
theorem m_Rd_readPart (l : Launch) (D : va_G) (K : Nat → ClassId) (q : Nat → Nat) (v : T_Rd) (g : Nat → Nat) (pr : T_Pg) (a2 : Int32) (a3 : Int32) {o_v : T_Rd} (hf : f_Rd_readPart v pr a2 a3 = some o_v) : MV l yX6_readPart cX6_readPart 4 (none) rm_Rd_readPart D K [.ref (q 0), .ref (g 0), .int a2, .int a3] (cl_Rd K q v ++ (cl_Pg K g pr)) (cl_Rd K q o_v ++ (cl_Pg K g pr)) := by
  refine MV_of (loc0 := [(0, .ref (q 0)), (1, .ref (g 0)), (2, .int a2), (3, .int a3)]) (by decide +kernel) rfl (Nat.le_of_ble_eq_true rfl) ?_
  intro p e s m args below meth c A cx
  unfold f_Rd_readPart at hf
  refine r_ws (ws' := [((q 0), ob 5 [.ref (q 1), .int (Rd_filled v), .int (Rd_fault v), .int (Rd_faultPlace v), .ref (q 2), .ref (q 3), .ref (q 4), .ref (q 5), .int (Rd_limit v), .int (Rd_position v), .int (Rd_token v), .int (Rd_value v), .int (Rd_place v), .int (Rd_toldRules v), .int (Rd_toldData v)]), ((q 1), aB K 700 (Rd_tape v)), ((q 2), aI K 25 (Rd_words v)), ((q 3), aI K 75 (Rd_sorts v)), ((q 4), aI K 3 (Rd_parts v)), ((q 5), aI K 64 (Rd_wantedPlaces v)), ((g 0), ob 3 [.ref (g 1), .ref (g 2), .ref (g 3), .ref (g 4), .ref (g 5), .ref (g 6), .ref (g 7), .ref (g 8), .int (Pg_nameCount pr), .int (Pg_size pr), .int (Pg_lines pr)]), ((g 1), aI K 64 (Pg_code pr)), ((g 2), aI K 64 (Pg_first pr)), ((g 3), aI K 64 (Pg_second pr)), ((g 4), aI K 64 (Pg_third pr)), ((g 5), aI K 8 (Pg_rules pr)), ((g 6), aI K 32 (Pg_data pr)), ((g 7), aI K 140 (Pg_names pr)), ((g 8), aI K 140 (Pg_namedPlaces pr))]) rfl ?_
  refine r_iload_n (pc := 0) cx dX6_readPart_0 2 rfl ?_
  refine r_bipush (pc := 1) cx dX6_readPart_1 bp_110 ?_
  refine r_icmp_eq (pc := 3) (tgt := 12) cx dX6_readPart_3 (by decide) (fun h1 => ?_) (fun h1 => ?_)
  · have hf := ifp h1 hf
    refine r_aload_n (pc := 12) cx dX6_readPart_12 0 rfl ?_
    refine r_aload_n (pc := 13) cx dX6_readPart_13 1 rfl ?_
    refine r_iload_n (pc := 14) cx dX6_readPart_14 2 rfl ?_
    obtain ⟨v2, hc3, hf⟩ := bd_of hf
    refine r_Vv (pc := 15) (ws' := [((q 0), ob 5 [.ref (q 1), .int (Rd_filled v2), .int (Rd_fault v2), .int (Rd_faultPlace v2), .ref (q 2), .ref (q 3), .ref (q 4), .ref (q 5), .int (Rd_limit v2), .int (Rd_position v2), .int (Rd_token v2), .int (Rd_value v2), .int (Rd_place v2), .int (Rd_toldRules v2), .int (Rd_toldData v2)]), ((q 1), aB K 700 (Rd_tape v2)), ((q 2), aI K 25 (Rd_words v2)), ((q 3), aI K 75 (Rd_sorts v2)), ((q 4), aI K 3 (Rd_parts v2)), ((q 5), aI K 64 (Rd_wantedPlaces v2)), ((g 0), ob 3 [.ref (g 1), .ref (g 2), .ref (g 3), .ref (g 4), .ref (g 5), .ref (g 6), .ref (g 7), .ref (g 8), .int (Pg_nameCount pr), .int (Pg_size pr), .int (Pg_lines pr)]), ((g 1), aI K 64 (Pg_code pr)), ((g 2), aI K 64 (Pg_first pr)), ((g 3), aI K 64 (Pg_second pr)), ((g 4), aI K 64 (Pg_third pr)), ((g 5), aI K 8 (Pg_rules pr)), ((g 6), aI K 32 (Pg_data pr)), ((g 7), aI K 140 (Pg_names pr)), ((g 8), aI K 140 (Pg_namedPlaces pr))]) cx [.ref (g 0), .int a2] [] [0, 1, 2, 3, 4, 5, 6, 7, 8, 9, 10, 11, 12, 13, 14] (m_Rd_readName l D K q v g pr a2 hc3) yv_X6_readName wd_661 ⟨rfl, rfl⟩ (by decide) rfl rfl rfl (by decide) 0 rfl rfl rfl (Nat.le_of_ble_eq_true rfl) dX6_readPart_15 ?_
    refine r_goto (pc := 18) (tgt := 153) cx dX6_readPart_18 (by decide) ?_
    cases hf
    exact r_vret (pc := 153) cx rfl dX6_readPart_153
  · have hf := ifn h1 hf
    refine r_iload_n (pc := 6) cx dX6_readPart_6 2 rfl ?_
    refine r_bipush (pc := 7) cx dX6_readPart_7 bp_119 ?_
    refine r_icmp_ne (pc := 9) (tgt := 21) cx dX6_readPart_9 (by decide) (fun h4 => ?_) (fun h4 => ?_)
    · have hf := ifn h4 hf
      refine r_aload_n (pc := 21) cx dX6_readPart_21 0 rfl ?_
      refine r_get (pc := 22) cx cf_X6 0 10 rfl (by decide) rfl wd_262 dX6_readPart_22 ?_
      refine r_iconst (pc := 25) cx dX6_readPart_25 ic_2 ?_
      refine r_icmp_eq (pc := 26) (tgt := 41) cx dX6_readPart_26 (by decide) (fun h5 => ?_) (fun h5 => ?_)
      · have hf := ifp h5 hf
        refine r_aload_n (pc := 41) cx dX6_readPart_41 0 rfl ?_
        refine r_get (pc := 42) cx cf_X6 0 11 rfl (by decide) rfl wd_263 dX6_readPart_42 ?_
        refine r_aload_n (pc := 45) cx dX6_readPart_45 0 rfl ?_
        refine r_iload_n (pc := 46) cx dX6_readPart_46 2 rfl ?_
        obtain ⟨r6, hc7, hf⟩ := bd_of hf
        refine r_Vi (pc := 47) (ws' := [((q 0), ob 5 [.ref (q 1), .int (Rd_filled v), .int (Rd_fault v), .int (Rd_faultPlace v), .ref (q 2), .ref (q 3), .ref (q 4), .ref (q 5), .int (Rd_limit v), .int (Rd_position v), .int (Rd_token v), .int (Rd_value v), .int (Rd_place v), .int (Rd_toldRules v), .int (Rd_toldData v)]), ((q 1), aB K 700 (Rd_tape v)), ((q 2), aI K 25 (Rd_words v)), ((q 3), aI K 75 (Rd_sorts v)), ((q 4), aI K 3 (Rd_parts v)), ((q 5), aI K 64 (Rd_wantedPlaces v)), ((g 0), ob 3 [.ref (g 1), .ref (g 2), .ref (g 3), .ref (g 4), .ref (g 5), .ref (g 6), .ref (g 7), .ref (g 8), .int (Pg_nameCount pr), .int (Pg_size pr), .int (Pg_lines pr)]), ((g 1), aI K 64 (Pg_code pr)), ((g 2), aI K 64 (Pg_first pr)), ((g 3), aI K 64 (Pg_second pr)), ((g 4), aI K 64 (Pg_third pr)), ((g 5), aI K 8 (Pg_rules pr)), ((g 6), aI K 32 (Pg_data pr)), ((g 7), aI K 140 (Pg_names pr)), ((g 8), aI K 140 (Pg_namedPlaces pr))]) cx [.int a2] [.int (Rd_value v)] [0, 1, 2, 3, 4, 5] (m_Rd_least l D K q v a2 hc7) yv_X6_least wd_669 ⟨rfl, rfl⟩ (by decide) rfl rfl rfl (by decide) 0 rfl rfl rfl (Nat.le_of_ble_eq_true rfl) dX6_readPart_47 ?_
        refine r_icmp_lt (pc := 50) (tgt := 64) cx dX6_readPart_50 (by decide) (fun h8 => ?_) (fun h8 => ?_)
        · have hf := ifp h8 hf
          refine r_aload_n (pc := 64) cx dX6_readPart_64 0 rfl ?_
          refine r_iconst (pc := 65) cx dX6_readPart_65 ic_2 ?_
          refine r_aload_n (pc := 66) cx dX6_readPart_66 0 rfl ?_
          refine r_get (pc := 67) cx cf_X6 0 12 rfl (by decide) rfl wd_264 dX6_readPart_67 ?_
          obtain ⟨v9, hc10, hf⟩ := bd_of hf
          refine r_Vv (pc := 70) (ws' := [((q 0), ob 5 [.ref (q 1), .int (Rd_filled v9), .int (Rd_fault v9), .int (Rd_faultPlace v9), .ref (q 2), .ref (q 3), .ref (q 4), .ref (q 5), .int (Rd_limit v9), .int (Rd_position v9), .int (Rd_token v9), .int (Rd_value v9), .int (Rd_place v9), .int (Rd_toldRules v9), .int (Rd_toldData v9)]), ((q 1), aB K 700 (Rd_tape v9)), ((q 2), aI K 25 (Rd_words v9)), ((q 3), aI K 75 (Rd_sorts v9)), ((q 4), aI K 3 (Rd_parts v9)), ((q 5), aI K 64 (Rd_wantedPlaces v9)), ((g 0), ob 3 [.ref (g 1), .ref (g 2), .ref (g 3), .ref (g 4), .ref (g 5), .ref (g 6), .ref (g 7), .ref (g 8), .int (Pg_nameCount pr), .int (Pg_size pr), .int (Pg_lines pr)]), ((g 1), aI K 64 (Pg_code pr)), ((g 2), aI K 64 (Pg_first pr)), ((g 3), aI K 64 (Pg_second pr)), ((g 4), aI K 64 (Pg_third pr)), ((g 5), aI K 8 (Pg_rules pr)), ((g 6), aI K 32 (Pg_data pr)), ((g 7), aI K 140 (Pg_names pr)), ((g 8), aI K 140 (Pg_namedPlaces pr))]) cx [.int (2 : Int32), .int (Rd_place v)] [] [0, 1, 2, 3, 4, 5] (m_Rd_fail l D K q v (2 : Int32) (Rd_place v) hc10) yv_X6_fail wd_649 ⟨rfl, rfl⟩ (by decide) rfl rfl rfl (by decide) 0 rfl rfl rfl (Nat.le_of_ble_eq_true rfl) dX6_readPart_70 ?_
          refine r_goto (pc := 73) (tgt := 153) cx dX6_readPart_73 (by decide) ?_
          cases hf
          exact r_vret (pc := 153) cx rfl dX6_readPart_153
        · have hf := ifn h8 hf
          refine r_aload_n (pc := 53) cx dX6_readPart_53 0 rfl ?_
          refine r_get (pc := 54) cx cf_X6 0 11 rfl (by decide) rfl wd_263 dX6_readPart_54 ?_
          refine r_iload_n (pc := 57) cx dX6_readPart_57 2 rfl ?_
          obtain ⟨r11, hc12, hf⟩ := bd_of hf
          refine r_Si (pc := 58) (ws' := [((q 0), ob 5 [.ref (q 1), .int (Rd_filled v), .int (Rd_fault v), .int (Rd_faultPlace v), .ref (q 2), .ref (q 3), .ref (q 4), .ref (q 5), .int (Rd_limit v), .int (Rd_position v), .int (Rd_token v), .int (Rd_value v), .int (Rd_place v), .int (Rd_toldRules v), .int (Rd_toldData v)]), ((q 1), aB K 700 (Rd_tape v)), ((q 2), aI K 25 (Rd_words v)), ((q 3), aI K 75 (Rd_sorts v)), ((q 4), aI K 3 (Rd_parts v)), ((q 5), aI K 64 (Rd_wantedPlaces v)), ((g 0), ob 3 [.ref (g 1), .ref (g 2), .ref (g 3), .ref (g 4), .ref (g 5), .ref (g 6), .ref (g 7), .ref (g 8), .int (Pg_nameCount pr), .int (Pg_size pr), .int (Pg_lines pr)]), ((g 1), aI K 64 (Pg_code pr)), ((g 2), aI K 64 (Pg_first pr)), ((g 3), aI K 64 (Pg_second pr)), ((g 4), aI K 64 (Pg_third pr)), ((g 5), aI K 8 (Pg_rules pr)), ((g 6), aI K 32 (Pg_data pr)), ((g 7), aI K 140 (Pg_names pr)), ((g 8), aI K 140 (Pg_namedPlaces pr))]) cx [.int a2] [.int (Rd_value v)] [] (m_Rd_greatest l D K a2 hc12) ys_X6_greatest wd_673 ⟨rfl, rfl⟩ (by decide) rfl rfl rfl (by decide) rfl (Nat.le_of_ble_eq_true rfl) dX6_readPart_58 ?_
          refine r_icmp_le (pc := 61) (tgt := 76) cx dX6_readPart_61 (by decide) (fun h13 => ?_) (fun h13 => ?_)
          · have hf := ifp h13 hf
            refine r_iload_n (pc := 76) cx dX6_readPart_76 2 rfl ?_
            refine r_bipush (pc := 77) cx dX6_readPart_77 bp_100 ?_
            refine r_icmp_ne (pc := 79) (tgt := 109) cx dX6_readPart_79 (by decide) (fun h14 => ?_) (fun h14 => ?_)
            · have hf := ifn h14 hf
              refine r_aload_n (pc := 109) cx dX6_readPart_109 0 rfl ?_
              refine r_dup (pc := 110) cx dX6_readPart_110 rfl ?_
              refine r_get (pc := 111) cx cf_X6 0 14 rfl (by decide) rfl wd_266 dX6_readPart_111 ?_
              refine r_iload_n (pc := 114) cx dX6_readPart_114 2 rfl ?_
              refine r_bipush (pc := 115) cx dX6_readPart_115 bp_100 ?_
              obtain ⟨J16, eJ16, hf⟩ := nm_of hf
              have hJ16 : ∀ (y15 : Int32), J16 y15 = some o_v → WW p l e rm_Rd_readPart s m args below meth c D A 4 0 0 (MQ below (QV D K A (cl_Rd K q o_v ++ (cl_Pg K g pr))) args s 0 0 A) ([((q 0), ob 5 [.ref (q 1), .int (Rd_filled v), .int (Rd_fault v), .int (Rd_faultPlace v), .ref (q 2), .ref (q 3), .ref (q 4), .ref (q 5), .int (Rd_limit v), .int (Rd_position v), .int (Rd_token v), .int (Rd_value v), .int (Rd_place v), .int (Rd_toldRules v), .int (Rd_toldData v)]), ((q 1), aB K 700 (Rd_tape v)), ((q 2), aI K 25 (Rd_words v)), ((q 3), aI K 75 (Rd_sorts v)), ((q 4), aI K 3 (Rd_parts v)), ((q 5), aI K 64 (Rd_wantedPlaces v)), ((g 0), ob 3 [.ref (g 1), .ref (g 2), .ref (g 3), .ref (g 4), .ref (g 5), .ref (g 6), .ref (g 7), .ref (g 8), .int (Pg_nameCount pr), .int (Pg_size pr), .int (Pg_lines pr)]), ((g 1), aI K 64 (Pg_code pr)), ((g 2), aI K 64 (Pg_first pr)), ((g 3), aI K 64 (Pg_second pr)), ((g 4), aI K 64 (Pg_third pr)), ((g 5), aI K 8 (Pg_rules pr)), ((g 6), aI K 32 (Pg_data pr)), ((g 7), aI K 140 (Pg_names pr)), ((g 8), aI K 140 (Pg_namedPlaces pr))]) ([(0, .ref (q 0)), (3, .int a3)]) ([.int y15, .int (Rd_toldData v), .ref (q 0)]) 130 := by
                intro y15 hf
                rw [eJ16] at hf
                refine r_ior (pc := 130) cx dX6_readPart_130 ?_
                obtain ⟨x17, ex17, hf⟩ := nm_of hf
                refine r_nm ex17 ?_
                refine r_putI (pc := 131) (ws' := [((q 0), ob 5 [.ref (q 1), .int (Rd_filled v), .int (Rd_fault v), .int (Rd_faultPlace v), .ref (q 2), .ref (q 3), .ref (q 4), .ref (q 5), .int (Rd_limit v), .int (Rd_position v), .int (Rd_token v), .int (Rd_value v), .int (Rd_place v), .int (Rd_toldRules v), .int x17]), ((q 1), aB K 700 (Rd_tape v)), ((q 2), aI K 25 (Rd_words v)), ((q 3), aI K 75 (Rd_sorts v)), ((q 4), aI K 3 (Rd_parts v)), ((q 5), aI K 64 (Rd_wantedPlaces v)), ((g 0), ob 3 [.ref (g 1), .ref (g 2), .ref (g 3), .ref (g 4), .ref (g 5), .ref (g 6), .ref (g 7), .ref (g 8), .int (Pg_nameCount pr), .int (Pg_size pr), .int (Pg_lines pr)]), ((g 1), aI K 64 (Pg_code pr)), ((g 2), aI K 64 (Pg_first pr)), ((g 3), aI K 64 (Pg_second pr)), ((g 4), aI K 64 (Pg_third pr)), ((g 5), aI K 8 (Pg_rules pr)), ((g 6), aI K 32 (Pg_data pr)), ((g 7), aI K 140 (Pg_names pr)), ((g 8), aI K 140 (Pg_namedPlaces pr))]) cx cf_X6 0 14 rfl (by decide) (Nat.le_of_ble_eq_true rfl) rfl pfd_I wd_266 dX6_readPart_131 rfl ?_
                refine r_iload_n (pc := 134) cx dX6_readPart_134 1 rfl ?_
                refine r_if_lt (pc := 135) (tgt := 153) cx dX6_readPart_135 (by decide) (fun h18 => ?_) (fun h18 => ?_)
                · have hf := ifp h18 hf
                  cases hf
                  exact r_vret (pc := 153) cx rfl dX6_readPart_153
                · have hf := ifn h18 hf
                  refine r_iload_n (pc := 138) cx dX6_readPart_138 1 rfl ?_
                  refine r_iconst (pc := 139) cx dX6_readPart_139 ic_3 ?_
                  refine r_icmp_ge (pc := 140) (tgt := 153) cx dX6_readPart_140 (by decide) (fun h19 => ?_) (fun h19 => ?_)
                  · have hf := ifp h19 hf
                    cases hf
                    exact r_vret (pc := 153) cx rfl dX6_readPart_153
                  · have hf := ifn h19 hf
                    refine r_aload_n (pc := 143) cx dX6_readPart_143 0 rfl ?_
                    refine r_get (pc := 144) cx cf_X6 0 6 rfl (by decide) rfl wd_258 dX6_readPart_144 ?_
                    refine r_iload_n (pc := 147) cx dX6_readPart_147 1 rfl ?_
                    refine r_aload_n (pc := 148) cx dX6_readPart_148 0 rfl ?_
                    refine r_get (pc := 149) cx cf_X6 0 11 rfl (by decide) rfl wd_263 dX6_readPart_149 ?_
                    obtain ⟨x20, ex20, hf⟩ := nm_of hf
                    refine r_nm ex20 ?_
                    obtain ⟨h21, hf⟩ := chk_of hf
                    obtain ⟨f22, ef22, hf⟩ := nm_of hf
                    refine r_iast (pc := 152) (ws' := [((q 0), ob 5 [.ref (q 1), .int (Rd_filled v), .int (Rd_fault v), .int (Rd_faultPlace v), .ref (q 2), .ref (q 3), .ref (q 4), .ref (q 5), .int (Rd_limit v), .int (Rd_position v), .int (Rd_token v), .int (Rd_value v), .int (Rd_place v), .int (Rd_toldRules v), .int x17]), ((q 1), aB K 700 (Rd_tape v)), ((q 2), aI K 25 (Rd_words v)), ((q 3), aI K 75 (Rd_sorts v)), ((q 4), aI K 3 f22), ((q 5), aI K 64 (Rd_wantedPlaces v)), ((g 0), ob 3 [.ref (g 1), .ref (g 2), .ref (g 3), .ref (g 4), .ref (g 5), .ref (g 6), .ref (g 7), .ref (g 8), .int (Pg_nameCount pr), .int (Pg_size pr), .int (Pg_lines pr)]), ((g 1), aI K 64 (Pg_code pr)), ((g 2), aI K 64 (Pg_first pr)), ((g 3), aI K 64 (Pg_second pr)), ((g 4), aI K 64 (Pg_third pr)), ((g 5), aI K 8 (Pg_rules pr)), ((g 6), aI K 32 (Pg_data pr)), ((g 7), aI K 140 (Pg_names pr)), ((g 8), aI K 140 (Pg_namedPlaces pr))]) cx 4 rfl h21 dX6_readPart_152 ef22 rfl ?_
                    cases hf
                    exact r_vret (pc := 153) cx rfl dX6_readPart_153
              refine r_icmp_ne (pc := 117) (tgt := 129) cx dX6_readPart_117 (by decide) (fun h23 => ?_) (fun h23 => ?_)
              · have hf := ifn h23 hf
                refine r_iconst (pc := 129) cx dX6_readPart_129 ic_0 ?_
                refine r_loc (loc' := [(0, .ref (q 0)), (3, .int a3)]) [0, 3] rfl ?_
                exact hJ16 _ hf
              · have hf := ifp h23 hf
                refine r_iconst (pc := 120) cx dX6_readPart_120 ic_1 ?_
                refine r_aload_n (pc := 121) cx dX6_readPart_121 0 rfl ?_
                refine r_get (pc := 122) cx cf_X6 0 11 rfl (by decide) rfl wd_263 dX6_readPart_122 ?_
                refine r_ishl (pc := 125) cx dX6_readPart_125 ?_
                refine r_goto (pc := 126) (tgt := 130) cx dX6_readPart_126 (by decide) ?_
                refine r_loc (loc' := [(0, .ref (q 0)), (3, .int a3)]) [0, 3] rfl ?_
                exact hJ16 _ hf
            · have hf := ifp h14 hf
              refine r_aload_n (pc := 82) cx dX6_readPart_82 0 rfl ?_
              refine r_get (pc := 83) cx cf_X6 0 14 rfl (by decide) rfl wd_266 dX6_readPart_83 ?_
              refine r_aload_n (pc := 86) cx dX6_readPart_86 0 rfl ?_
              refine r_get (pc := 87) cx cf_X6 0 11 rfl (by decide) rfl wd_263 dX6_readPart_87 ?_
              refine r_ishr (pc := 90) cx dX6_readPart_90 ?_
              refine r_iconst (pc := 91) cx dX6_readPart_91 ic_1 ?_
              refine r_iand (pc := 92) cx dX6_readPart_92 ?_
              refine r_iconst (pc := 93) cx dX6_readPart_93 ic_1 ?_
              refine r_icmp_ne (pc := 94) (tgt := 109) cx dX6_readPart_94 (by decide) (fun h24 => ?_) (fun h24 => ?_)
              · have hf := ifn h24 hf
                refine r_aload_n (pc := 109) cx dX6_readPart_109 0 rfl ?_
                refine r_dup (pc := 110) cx dX6_readPart_110 rfl ?_
                refine r_get (pc := 111) cx cf_X6 0 14 rfl (by decide) rfl wd_266 dX6_readPart_111 ?_
                refine r_iload_n (pc := 114) cx dX6_readPart_114 2 rfl ?_
                refine r_bipush (pc := 115) cx dX6_readPart_115 bp_100 ?_
                obtain ⟨J26, eJ26, hf⟩ := nm_of hf
                have hJ26 : ∀ (y25 : Int32), J26 y25 = some o_v → WW p l e rm_Rd_readPart s m args below meth c D A 4 0 0 (MQ below (QV D K A (cl_Rd K q o_v ++ (cl_Pg K g pr))) args s 0 0 A) ([((q 0), ob 5 [.ref (q 1), .int (Rd_filled v), .int (Rd_fault v), .int (Rd_faultPlace v), .ref (q 2), .ref (q 3), .ref (q 4), .ref (q 5), .int (Rd_limit v), .int (Rd_position v), .int (Rd_token v), .int (Rd_value v), .int (Rd_place v), .int (Rd_toldRules v), .int (Rd_toldData v)]), ((q 1), aB K 700 (Rd_tape v)), ((q 2), aI K 25 (Rd_words v)), ((q 3), aI K 75 (Rd_sorts v)), ((q 4), aI K 3 (Rd_parts v)), ((q 5), aI K 64 (Rd_wantedPlaces v)), ((g 0), ob 3 [.ref (g 1), .ref (g 2), .ref (g 3), .ref (g 4), .ref (g 5), .ref (g 6), .ref (g 7), .ref (g 8), .int (Pg_nameCount pr), .int (Pg_size pr), .int (Pg_lines pr)]), ((g 1), aI K 64 (Pg_code pr)), ((g 2), aI K 64 (Pg_first pr)), ((g 3), aI K 64 (Pg_second pr)), ((g 4), aI K 64 (Pg_third pr)), ((g 5), aI K 8 (Pg_rules pr)), ((g 6), aI K 32 (Pg_data pr)), ((g 7), aI K 140 (Pg_names pr)), ((g 8), aI K 140 (Pg_namedPlaces pr))]) ([(0, .ref (q 0)), (3, .int a3)]) ([.int y25, .int (Rd_toldData v), .ref (q 0)]) 130 := by
                  intro y25 hf
                  rw [eJ26] at hf
                  refine r_ior (pc := 130) cx dX6_readPart_130 ?_
                  obtain ⟨x27, ex27, hf⟩ := nm_of hf
                  refine r_nm ex27 ?_
                  refine r_putI (pc := 131) (ws' := [((q 0), ob 5 [.ref (q 1), .int (Rd_filled v), .int (Rd_fault v), .int (Rd_faultPlace v), .ref (q 2), .ref (q 3), .ref (q 4), .ref (q 5), .int (Rd_limit v), .int (Rd_position v), .int (Rd_token v), .int (Rd_value v), .int (Rd_place v), .int (Rd_toldRules v), .int x27]), ((q 1), aB K 700 (Rd_tape v)), ((q 2), aI K 25 (Rd_words v)), ((q 3), aI K 75 (Rd_sorts v)), ((q 4), aI K 3 (Rd_parts v)), ((q 5), aI K 64 (Rd_wantedPlaces v)), ((g 0), ob 3 [.ref (g 1), .ref (g 2), .ref (g 3), .ref (g 4), .ref (g 5), .ref (g 6), .ref (g 7), .ref (g 8), .int (Pg_nameCount pr), .int (Pg_size pr), .int (Pg_lines pr)]), ((g 1), aI K 64 (Pg_code pr)), ((g 2), aI K 64 (Pg_first pr)), ((g 3), aI K 64 (Pg_second pr)), ((g 4), aI K 64 (Pg_third pr)), ((g 5), aI K 8 (Pg_rules pr)), ((g 6), aI K 32 (Pg_data pr)), ((g 7), aI K 140 (Pg_names pr)), ((g 8), aI K 140 (Pg_namedPlaces pr))]) cx cf_X6 0 14 rfl (by decide) (Nat.le_of_ble_eq_true rfl) rfl pfd_I wd_266 dX6_readPart_131 rfl ?_
                  refine r_iload_n (pc := 134) cx dX6_readPart_134 1 rfl ?_
                  refine r_if_lt (pc := 135) (tgt := 153) cx dX6_readPart_135 (by decide) (fun h28 => ?_) (fun h28 => ?_)
                  · have hf := ifp h28 hf
                    cases hf
                    exact r_vret (pc := 153) cx rfl dX6_readPart_153
                  · have hf := ifn h28 hf
                    refine r_iload_n (pc := 138) cx dX6_readPart_138 1 rfl ?_
                    refine r_iconst (pc := 139) cx dX6_readPart_139 ic_3 ?_
                    refine r_icmp_ge (pc := 140) (tgt := 153) cx dX6_readPart_140 (by decide) (fun h29 => ?_) (fun h29 => ?_)
                    · have hf := ifp h29 hf
                      cases hf
                      exact r_vret (pc := 153) cx rfl dX6_readPart_153
                    · have hf := ifn h29 hf
                      refine r_aload_n (pc := 143) cx dX6_readPart_143 0 rfl ?_
                      refine r_get (pc := 144) cx cf_X6 0 6 rfl (by decide) rfl wd_258 dX6_readPart_144 ?_
                      refine r_iload_n (pc := 147) cx dX6_readPart_147 1 rfl ?_
                      refine r_aload_n (pc := 148) cx dX6_readPart_148 0 rfl ?_
                      refine r_get (pc := 149) cx cf_X6 0 11 rfl (by decide) rfl wd_263 dX6_readPart_149 ?_
                      obtain ⟨x30, ex30, hf⟩ := nm_of hf
                      refine r_nm ex30 ?_
                      obtain ⟨h31, hf⟩ := chk_of hf
                      obtain ⟨f32, ef32, hf⟩ := nm_of hf
                      refine r_iast (pc := 152) (ws' := [((q 0), ob 5 [.ref (q 1), .int (Rd_filled v), .int (Rd_fault v), .int (Rd_faultPlace v), .ref (q 2), .ref (q 3), .ref (q 4), .ref (q 5), .int (Rd_limit v), .int (Rd_position v), .int (Rd_token v), .int (Rd_value v), .int (Rd_place v), .int (Rd_toldRules v), .int x27]), ((q 1), aB K 700 (Rd_tape v)), ((q 2), aI K 25 (Rd_words v)), ((q 3), aI K 75 (Rd_sorts v)), ((q 4), aI K 3 f32), ((q 5), aI K 64 (Rd_wantedPlaces v)), ((g 0), ob 3 [.ref (g 1), .ref (g 2), .ref (g 3), .ref (g 4), .ref (g 5), .ref (g 6), .ref (g 7), .ref (g 8), .int (Pg_nameCount pr), .int (Pg_size pr), .int (Pg_lines pr)]), ((g 1), aI K 64 (Pg_code pr)), ((g 2), aI K 64 (Pg_first pr)), ((g 3), aI K 64 (Pg_second pr)), ((g 4), aI K 64 (Pg_third pr)), ((g 5), aI K 8 (Pg_rules pr)), ((g 6), aI K 32 (Pg_data pr)), ((g 7), aI K 140 (Pg_names pr)), ((g 8), aI K 140 (Pg_namedPlaces pr))]) cx 4 rfl h31 dX6_readPart_152 ef32 rfl ?_
                      cases hf
                      exact r_vret (pc := 153) cx rfl dX6_readPart_153
                refine r_icmp_ne (pc := 117) (tgt := 129) cx dX6_readPart_117 (by decide) (fun h33 => ?_) (fun h33 => ?_)
                · have hf := ifn h33 hf
                  refine r_iconst (pc := 129) cx dX6_readPart_129 ic_0 ?_
                  refine r_loc (loc' := [(0, .ref (q 0)), (3, .int a3)]) [0, 3] rfl ?_
                  exact hJ26 _ hf
                · have hf := ifp h33 hf
                  refine r_iconst (pc := 120) cx dX6_readPart_120 ic_1 ?_
                  refine r_aload_n (pc := 121) cx dX6_readPart_121 0 rfl ?_
                  refine r_get (pc := 122) cx cf_X6 0 11 rfl (by decide) rfl wd_263 dX6_readPart_122 ?_
                  refine r_ishl (pc := 125) cx dX6_readPart_125 ?_
                  refine r_goto (pc := 126) (tgt := 130) cx dX6_readPart_126 (by decide) ?_
                  refine r_loc (loc' := [(0, .ref (q 0)), (3, .int a3)]) [0, 3] rfl ?_
                  exact hJ26 _ hf
              · have hf := ifp h24 hf
                refine r_aload_n (pc := 97) cx dX6_readPart_97 0 rfl ?_
                refine r_iconst (pc := 98) cx dX6_readPart_98 ic_3 ?_
                refine r_aload_n (pc := 99) cx dX6_readPart_99 0 rfl ?_
                refine r_get (pc := 100) cx cf_X6 0 12 rfl (by decide) rfl wd_264 dX6_readPart_100 ?_
                obtain ⟨v34, hc35, hf⟩ := bd_of hf
                refine r_Vv (pc := 103) (ws' := [((q 0), ob 5 [.ref (q 1), .int (Rd_filled v34), .int (Rd_fault v34), .int (Rd_faultPlace v34), .ref (q 2), .ref (q 3), .ref (q 4), .ref (q 5), .int (Rd_limit v34), .int (Rd_position v34), .int (Rd_token v34), .int (Rd_value v34), .int (Rd_place v34), .int (Rd_toldRules v34), .int (Rd_toldData v34)]), ((q 1), aB K 700 (Rd_tape v34)), ((q 2), aI K 25 (Rd_words v34)), ((q 3), aI K 75 (Rd_sorts v34)), ((q 4), aI K 3 (Rd_parts v34)), ((q 5), aI K 64 (Rd_wantedPlaces v34)), ((g 0), ob 3 [.ref (g 1), .ref (g 2), .ref (g 3), .ref (g 4), .ref (g 5), .ref (g 6), .ref (g 7), .ref (g 8), .int (Pg_nameCount pr), .int (Pg_size pr), .int (Pg_lines pr)]), ((g 1), aI K 64 (Pg_code pr)), ((g 2), aI K 64 (Pg_first pr)), ((g 3), aI K 64 (Pg_second pr)), ((g 4), aI K 64 (Pg_third pr)), ((g 5), aI K 8 (Pg_rules pr)), ((g 6), aI K 32 (Pg_data pr)), ((g 7), aI K 140 (Pg_names pr)), ((g 8), aI K 140 (Pg_namedPlaces pr))]) cx [.int (3 : Int32), .int (Rd_place v)] [] [0, 1, 2, 3, 4, 5] (m_Rd_fail l D K q v (3 : Int32) (Rd_place v) hc35) yv_X6_fail wd_649 ⟨rfl, rfl⟩ (by decide) rfl rfl rfl (by decide) 0 rfl rfl rfl (Nat.le_of_ble_eq_true rfl) dX6_readPart_103 ?_
                refine r_goto (pc := 106) (tgt := 153) cx dX6_readPart_106 (by decide) ?_
                cases hf
                exact r_vret (pc := 153) cx rfl dX6_readPart_153
          · have hf := ifn h13 hf
            refine r_aload_n (pc := 64) cx dX6_readPart_64 0 rfl ?_
            refine r_iconst (pc := 65) cx dX6_readPart_65 ic_2 ?_
            refine r_aload_n (pc := 66) cx dX6_readPart_66 0 rfl ?_
            refine r_get (pc := 67) cx cf_X6 0 12 rfl (by decide) rfl wd_264 dX6_readPart_67 ?_
            obtain ⟨v36, hc37, hf⟩ := bd_of hf
            refine r_Vv (pc := 70) (ws' := [((q 0), ob 5 [.ref (q 1), .int (Rd_filled v36), .int (Rd_fault v36), .int (Rd_faultPlace v36), .ref (q 2), .ref (q 3), .ref (q 4), .ref (q 5), .int (Rd_limit v36), .int (Rd_position v36), .int (Rd_token v36), .int (Rd_value v36), .int (Rd_place v36), .int (Rd_toldRules v36), .int (Rd_toldData v36)]), ((q 1), aB K 700 (Rd_tape v36)), ((q 2), aI K 25 (Rd_words v36)), ((q 3), aI K 75 (Rd_sorts v36)), ((q 4), aI K 3 (Rd_parts v36)), ((q 5), aI K 64 (Rd_wantedPlaces v36)), ((g 0), ob 3 [.ref (g 1), .ref (g 2), .ref (g 3), .ref (g 4), .ref (g 5), .ref (g 6), .ref (g 7), .ref (g 8), .int (Pg_nameCount pr), .int (Pg_size pr), .int (Pg_lines pr)]), ((g 1), aI K 64 (Pg_code pr)), ((g 2), aI K 64 (Pg_first pr)), ((g 3), aI K 64 (Pg_second pr)), ((g 4), aI K 64 (Pg_third pr)), ((g 5), aI K 8 (Pg_rules pr)), ((g 6), aI K 32 (Pg_data pr)), ((g 7), aI K 140 (Pg_names pr)), ((g 8), aI K 140 (Pg_namedPlaces pr))]) cx [.int (2 : Int32), .int (Rd_place v)] [] [0, 1, 2, 3, 4, 5] (m_Rd_fail l D K q v (2 : Int32) (Rd_place v) hc37) yv_X6_fail wd_649 ⟨rfl, rfl⟩ (by decide) rfl rfl rfl (by decide) 0 rfl rfl rfl (Nat.le_of_ble_eq_true rfl) dX6_readPart_70 ?_
            refine r_goto (pc := 73) (tgt := 153) cx dX6_readPart_73 (by decide) ?_
            cases hf
            exact r_vret (pc := 153) cx rfl dX6_readPart_153
      · have hf := ifn h5 hf
        refine r_aload_n (pc := 29) cx dX6_readPart_29 0 rfl ?_
        refine r_iconst (pc := 30) cx dX6_readPart_30 ic_1 ?_
        refine r_aload_n (pc := 31) cx dX6_readPart_31 0 rfl ?_
        refine r_get (pc := 32) cx cf_X6 0 12 rfl (by decide) rfl wd_264 dX6_readPart_32 ?_
        obtain ⟨v38, hc39, hf⟩ := bd_of hf
        refine r_Vv (pc := 35) (ws' := [((q 0), ob 5 [.ref (q 1), .int (Rd_filled v38), .int (Rd_fault v38), .int (Rd_faultPlace v38), .ref (q 2), .ref (q 3), .ref (q 4), .ref (q 5), .int (Rd_limit v38), .int (Rd_position v38), .int (Rd_token v38), .int (Rd_value v38), .int (Rd_place v38), .int (Rd_toldRules v38), .int (Rd_toldData v38)]), ((q 1), aB K 700 (Rd_tape v38)), ((q 2), aI K 25 (Rd_words v38)), ((q 3), aI K 75 (Rd_sorts v38)), ((q 4), aI K 3 (Rd_parts v38)), ((q 5), aI K 64 (Rd_wantedPlaces v38)), ((g 0), ob 3 [.ref (g 1), .ref (g 2), .ref (g 3), .ref (g 4), .ref (g 5), .ref (g 6), .ref (g 7), .ref (g 8), .int (Pg_nameCount pr), .int (Pg_size pr), .int (Pg_lines pr)]), ((g 1), aI K 64 (Pg_code pr)), ((g 2), aI K 64 (Pg_first pr)), ((g 3), aI K 64 (Pg_second pr)), ((g 4), aI K 64 (Pg_third pr)), ((g 5), aI K 8 (Pg_rules pr)), ((g 6), aI K 32 (Pg_data pr)), ((g 7), aI K 140 (Pg_names pr)), ((g 8), aI K 140 (Pg_namedPlaces pr))]) cx [.int (1 : Int32), .int (Rd_place v)] [] [0, 1, 2, 3, 4, 5] (m_Rd_fail l D K q v (1 : Int32) (Rd_place v) hc39) yv_X6_fail wd_649 ⟨rfl, rfl⟩ (by decide) rfl rfl rfl (by decide) 0 rfl rfl rfl (Nat.le_of_ble_eq_true rfl) dX6_readPart_35 ?_
        refine r_goto (pc := 38) (tgt := 153) cx dX6_readPart_38 (by decide) ?_
        cases hf
        exact r_vret (pc := 153) cx rfl dX6_readPart_153
    · have hf := ifp h4 hf
      refine r_aload_n (pc := 12) cx dX6_readPart_12 0 rfl ?_
      refine r_aload_n (pc := 13) cx dX6_readPart_13 1 rfl ?_
      refine r_iload_n (pc := 14) cx dX6_readPart_14 2 rfl ?_
      obtain ⟨v40, hc41, hf⟩ := bd_of hf
      refine r_Vv (pc := 15) (ws' := [((q 0), ob 5 [.ref (q 1), .int (Rd_filled v40), .int (Rd_fault v40), .int (Rd_faultPlace v40), .ref (q 2), .ref (q 3), .ref (q 4), .ref (q 5), .int (Rd_limit v40), .int (Rd_position v40), .int (Rd_token v40), .int (Rd_value v40), .int (Rd_place v40), .int (Rd_toldRules v40), .int (Rd_toldData v40)]), ((q 1), aB K 700 (Rd_tape v40)), ((q 2), aI K 25 (Rd_words v40)), ((q 3), aI K 75 (Rd_sorts v40)), ((q 4), aI K 3 (Rd_parts v40)), ((q 5), aI K 64 (Rd_wantedPlaces v40)), ((g 0), ob 3 [.ref (g 1), .ref (g 2), .ref (g 3), .ref (g 4), .ref (g 5), .ref (g 6), .ref (g 7), .ref (g 8), .int (Pg_nameCount pr), .int (Pg_size pr), .int (Pg_lines pr)]), ((g 1), aI K 64 (Pg_code pr)), ((g 2), aI K 64 (Pg_first pr)), ((g 3), aI K 64 (Pg_second pr)), ((g 4), aI K 64 (Pg_third pr)), ((g 5), aI K 8 (Pg_rules pr)), ((g 6), aI K 32 (Pg_data pr)), ((g 7), aI K 140 (Pg_names pr)), ((g 8), aI K 140 (Pg_namedPlaces pr))]) cx [.ref (g 0), .int a2] [] [0, 1, 2, 3, 4, 5, 6, 7, 8, 9, 10, 11, 12, 13, 14] (m_Rd_readName l D K q v g pr a2 hc41) yv_X6_readName wd_661 ⟨rfl, rfl⟩ (by decide) rfl rfl rfl (by decide) 0 rfl rfl rfl (Nat.le_of_ble_eq_true rfl) dX6_readPart_15 ?_
      refine r_goto (pc := 18) (tgt := 153) cx dX6_readPart_18 (by decide) ?_
      cases hf
      exact r_vret (pc := 153) cx rfl dX6_readPart_153
theorem yv_X6_readPart : YV yX6_readPart cX6_readPart 4 (none) 3 := ⟨⟨by decide +kernel, by decide +kernel, by decide +kernel⟩, wd_660, wd_90, wd_659, wd_9⟩
def f_Rd_firstRule (a0 : Int32) : Option (Int32) :=
  (if a0 = (0 : Int32) then (some (0 : Int32)) else (if a0 = (1 : Int32) then (some (1 : Int32)) else (if a0 = (2 : Int32) then (some (3 : Int32)) else (if a0 = (3 : Int32) then (some (6 : Int32)) else (some (7 : Int32))))))
abbrev rm_Rd_firstRule : Room := { frames := 0, cells := 0, slots := 0, locals := 0 }
set_option maxRecDepth 100000 in
set_option maxHeartbeats 4000000 in
theorem m_Rd_firstRule (l : Launch) (D : va_G) (K : Nat → ClassId) (a0 : Int32) {r_ : Int32} (hf : f_Rd_firstRule a0 = some r_) : MI l yX6_firstRule cX6_firstRule 1 (some .int) rm_Rd_firstRule D K [.int a0] ([]) r_ ([]) := by
  refine MI_of (loc0 := [(0, .int a0)]) (by decide +kernel) rfl (Nat.le_of_ble_eq_true rfl) ?_
  intro p e s m args below meth c A cx
  unfold f_Rd_firstRule at hf
  refine r_ws (ws' := []) rfl ?_
  refine r_iload_n (pc := 0) cx dX6_firstRule_0 0 rfl ?_
  by_cases h1 : a0 = (0 : Int32)
  · have hf := ifp h1 hf
    refine r_tin (pc := 1) (tgt := 32) cx (0 : Int32) h1 dX6_firstRule_1 (by decide) (by decide) rfl (by decide) ?_
    refine r_iconst (pc := 32) cx dX6_firstRule_32 ic_0 ?_
    cases hf
    exact r_iret (pc := 33) cx rfl rfl dX6_firstRule_33
  · have hf := ifn h1 hf
    by_cases h2 : a0 = (1 : Int32)
    · have hf := ifp h2 hf
      refine r_tin (pc := 1) (tgt := 34) cx (1 : Int32) h2 dX6_firstRule_1 (by decide) (by decide) rfl (by decide) ?_
      refine r_iconst (pc := 34) cx dX6_firstRule_34 ic_1 ?_
      cases hf
      exact r_iret (pc := 35) cx rfl rfl dX6_firstRule_35
    · have hf := ifn h2 hf
      by_cases h3 : a0 = (2 : Int32)
      · have hf := ifp h3 hf
        refine r_tin (pc := 1) (tgt := 36) cx (2 : Int32) h3 dX6_firstRule_1 (by decide) (by decide) rfl (by decide) ?_
        refine r_iconst (pc := 36) cx dX6_firstRule_36 ic_3 ?_
        cases hf
        exact r_iret (pc := 37) cx rfl rfl dX6_firstRule_37
      · have hf := ifn h3 hf
        by_cases h4 : a0 = (3 : Int32)
        · have hf := ifp h4 hf
          refine r_tin (pc := 1) (tgt := 38) cx (3 : Int32) h4 dX6_firstRule_1 (by decide) (by decide) rfl (by decide) ?_
          refine r_bipush (pc := 38) cx dX6_firstRule_38 bp_6 ?_
          cases hf
          exact r_iret (pc := 40) cx rfl rfl dX6_firstRule_40
        · have hf := ifn h4 hf
          refine r_tout (pc := 1) (tgt := 41) cx dX6_firstRule_1 (by
            have nh1 := toInt_ne h1
            have mh1 : (0 : Int32).toInt = 0 := by decide
            rw [mh1] at nh1
            have nh2 := toInt_ne h2
            have mh2 : (1 : Int32).toInt = 1 := by decide
            rw [mh2] at nh2
            have nh3 := toInt_ne h3
            have mh3 : (2 : Int32).toInt = 2 := by decide
            rw [mh3] at nh3
            have nh4 := toInt_ne h4
            have mh4 : (3 : Int32).toInt = 3 := by decide
            rw [mh4] at nh4
            omega) (by decide) ?_
          refine r_bipush (pc := 41) cx dX6_firstRule_41 bp_7 ?_
          cases hf
          exact r_iret (pc := 43) cx rfl rfl dX6_firstRule_43
theorem ys_X6_firstRule : YS yX6_firstRule cX6_firstRule 1 (some .int) 1 := ⟨⟨by decide +kernel, by decide +kernel, by decide +kernel⟩, wd_691, wd_90, wd_690⟩
def f_Rd_takeLine_L96 (v : T_Rd) (a2 : Int32) (x4 : Int32) (k96_138 : (Nat → Int32) → Option (T_Rd × T_Pg)) : Nat → Int32 → (Nat → Int32) → Option (T_Rd × T_Pg)
  | 0, _, _ => none
  | n96 + 1, x5, f6 =>
    (if (3 : Int32) ≤ x5 then (k96_138 f6) else (bd (f_Rd_sortOf ((Rd_tape v), (Rd_filled v), (Rd_fault v), (Rd_faultPlace v), (Rd_words v), (Rd_sorts v), (Rd_parts v), (Rd_wantedPlaces v), (Rd_limit v), (Rd_position v), (Rd_token v), (Rd_value v), (Rd_place v), x4, (Rd_toldData v)) a2 x5) fun (r9 : Int32) => (if r9 = (32 : Int32) then (nm (x5 + (1 : Int32)) fun (x12 : Int32) => (f_Rd_takeLine_L96 v a2 x4 k96_138 n96 x12 f6)) else (bd (f_Rd_firstRule a2) fun (r13 : Int32) => (if ix x5 3 then (nm ((Rd_parts v) x5.toNatClampNeg) fun (x16 : Int32) => (nm (upd f6 (((r13 + x5) &&& (7 : Int32))).toNatClampNeg x16) fun (f17 : Nat → Int32) => (nm (x5 + (1 : Int32)) fun (x18 : Int32) => (f_Rd_takeLine_L96 v a2 x4 k96_138 n96 x18 f17)))) else none)))))
def f_Rd_takeLine (v : T_Rd) (pr : T_Pg) (a2 : Int32) : Option (T_Rd × T_Pg) :=
  (if a2 < (7 : Int32) then (if a2 = (6 : Int32) then (bd (f_Pg_nameNext pr ((Rd_parts v) (0 : Int32).toNatClampNeg)) fun (v21 : T_Pg) => (some (v, v21))) else (if a2 = (5 : Int32) then (nm ((Rd_parts v) (1 : Int32).toNatClampNeg) fun (x19 : Int32) => (nm (upd (Pg_data pr) ((((Rd_parts v) (0 : Int32).toNatClampNeg) &&& (31 : Int32))).toNatClampNeg x19) fun (f20 : Nat → Int32) => (some (v, ((Pg_code pr), (Pg_first pr), (Pg_second pr), (Pg_third pr), (Pg_rules pr), f20, (Pg_names pr), (Pg_namedPlaces pr), (Pg_nameCount pr), (Pg_size pr), (Pg_lines pr)))))) else (nm ((Rd_toldRules v) ||| ((1 : Int32) <<< (a2 &&& 31))) fun (x4 : Int32) => (f_Rd_takeLine_L96 v a2 x4 (fun (f7 : (Nat → Int32)) => (some (((Rd_tape v), (Rd_filled v), (Rd_fault v), (Rd_faultPlace v), (Rd_words v), (Rd_sorts v), (Rd_parts v), (Rd_wantedPlaces v), (Rd_limit v), (Rd_position v), (Rd_token v), (Rd_value v), (Rd_place v), x4, (Rd_toldData v)), ((Pg_code pr), (Pg_first pr), (Pg_second pr), (Pg_third pr), f7, (Pg_data pr), (Pg_names pr), (Pg_namedPlaces pr), (Pg_nameCount pr), (Pg_size pr), (Pg_lines pr))))) LF (0 : Int32) (Pg_rules pr))))) else (bd (f_Pg_append pr (a2 - (7 : Int32)) ((Rd_parts v) (0 : Int32).toNatClampNeg) ((Rd_parts v) (1 : Int32).toNatClampNeg) ((Rd_parts v) (2 : Int32).toNatClampNeg)) fun (v23 : T_Pg) => (some (v, v23))))
abbrev rm_Rd_takeLine : Room := { frames := 1, cells := 0, slots := 0, locals := 25 }
set_option maxRecDepth 100000 in
set_option maxHeartbeats 4000000 in
theorem m_Rd_takeLine (l : Launch) (D : va_G) (K : Nat → ClassId) (q : Nat → Nat) (v : T_Rd) (g : Nat → Nat) (pr : T_Pg) (a2 : Int32) {o_v : T_Rd} {o_pr : T_Pg} (hf : f_Rd_takeLine v pr a2 = some (o_v, o_pr)) : MV l yX6_takeLine cX6_takeLine 4 (none) rm_Rd_takeLine D K [.ref (q 0), .ref (g 0), .int a2] (cl_Rd K q v ++ (cl_Pg K g pr)) (cl_Rd K q o_v ++ (cl_Pg K g o_pr)) := by
  refine MV_of (loc0 := [(0, .ref (q 0)), (1, .ref (g 0)), (2, .int a2)]) (by decide +kernel) rfl (Nat.le_of_ble_eq_true rfl) ?_
  intro p e s m args below meth c A cx
  unfold f_Rd_takeLine at hf
  refine r_ws (ws' := [((q 0), ob 5 [.ref (q 1), .int (Rd_filled v), .int (Rd_fault v), .int (Rd_faultPlace v), .ref (q 2), .ref (q 3), .ref (q 4), .ref (q 5), .int (Rd_limit v), .int (Rd_position v), .int (Rd_token v), .int (Rd_value v), .int (Rd_place v), .int (Rd_toldRules v), .int (Rd_toldData v)]), ((q 1), aB K 700 (Rd_tape v)), ((q 2), aI K 25 (Rd_words v)), ((q 3), aI K 75 (Rd_sorts v)), ((q 4), aI K 3 (Rd_parts v)), ((q 5), aI K 64 (Rd_wantedPlaces v)), ((g 0), ob 3 [.ref (g 1), .ref (g 2), .ref (g 3), .ref (g 4), .ref (g 5), .ref (g 6), .ref (g 7), .ref (g 8), .int (Pg_nameCount pr), .int (Pg_size pr), .int (Pg_lines pr)]), ((g 1), aI K 64 (Pg_code pr)), ((g 2), aI K 64 (Pg_first pr)), ((g 3), aI K 64 (Pg_second pr)), ((g 4), aI K 64 (Pg_third pr)), ((g 5), aI K 8 (Pg_rules pr)), ((g 6), aI K 32 (Pg_data pr)), ((g 7), aI K 140 (Pg_names pr)), ((g 8), aI K 140 (Pg_namedPlaces pr))]) rfl ?_
  refine r_iload_n (pc := 0) cx dX6_takeLine_0 2 rfl ?_
  refine r_bipush (pc := 1) cx dX6_takeLine_1 bp_7 ?_
  refine r_icmp_lt (pc := 3) (tgt := 35) cx dX6_takeLine_3 (by decide) (fun h1 => ?_) (fun h1 => ?_)
  · have hf := ifp h1 hf
    refine r_iload_n (pc := 35) cx dX6_takeLine_35 2 rfl ?_
    refine r_bipush (pc := 36) cx dX6_takeLine_36 bp_6 ?_
    refine r_icmp_ne (pc := 38) (tgt := 54) cx dX6_takeLine_38 (by decide) (fun h2 => ?_) (fun h2 => ?_)
    · have hf := ifn h2 hf
      refine r_iload_n (pc := 54) cx dX6_takeLine_54 2 rfl ?_
      refine r_iconst (pc := 55) cx dX6_takeLine_55 ic_5 ?_
      refine r_icmp_ne (pc := 56) (tgt := 82) cx dX6_takeLine_56 (by decide) (fun h3 => ?_) (fun h3 => ?_)
      · have hf := ifn h3 hf
        refine r_aload_n (pc := 82) cx dX6_takeLine_82 0 rfl ?_
        refine r_dup (pc := 83) cx dX6_takeLine_83 rfl ?_
        refine r_get (pc := 84) cx cf_X6 0 13 rfl (by decide) rfl wd_265 dX6_takeLine_84 ?_
        refine r_iconst (pc := 87) cx dX6_takeLine_87 ic_1 ?_
        refine r_iload_n (pc := 88) cx dX6_takeLine_88 2 rfl ?_
        refine r_ishl (pc := 89) cx dX6_takeLine_89 ?_
        refine r_ior (pc := 90) cx dX6_takeLine_90 ?_
        obtain ⟨x4, ex4, hf⟩ := nm_of hf
        refine r_nm ex4 ?_
        refine r_putI (pc := 91) (ws' := [((q 0), ob 5 [.ref (q 1), .int (Rd_filled v), .int (Rd_fault v), .int (Rd_faultPlace v), .ref (q 2), .ref (q 3), .ref (q 4), .ref (q 5), .int (Rd_limit v), .int (Rd_position v), .int (Rd_token v), .int (Rd_value v), .int (Rd_place v), .int x4, .int (Rd_toldData v)]), ((q 1), aB K 700 (Rd_tape v)), ((q 2), aI K 25 (Rd_words v)), ((q 3), aI K 75 (Rd_sorts v)), ((q 4), aI K 3 (Rd_parts v)), ((q 5), aI K 64 (Rd_wantedPlaces v)), ((g 0), ob 3 [.ref (g 1), .ref (g 2), .ref (g 3), .ref (g 4), .ref (g 5), .ref (g 6), .ref (g 7), .ref (g 8), .int (Pg_nameCount pr), .int (Pg_size pr), .int (Pg_lines pr)]), ((g 1), aI K 64 (Pg_code pr)), ((g 2), aI K 64 (Pg_first pr)), ((g 3), aI K 64 (Pg_second pr)), ((g 4), aI K 64 (Pg_third pr)), ((g 5), aI K 8 (Pg_rules pr)), ((g 6), aI K 32 (Pg_data pr)), ((g 7), aI K 140 (Pg_names pr)), ((g 8), aI K 140 (Pg_namedPlaces pr))]) cx cf_X6 0 13 rfl (by decide) (Nat.le_of_ble_eq_true rfl) rfl pfd_I wd_265 dX6_takeLine_91 rfl ?_
        refine r_iconst (pc := 94) cx dX6_takeLine_94 ic_0 ?_
        refine r_istore_n (pc := 95) (loc' := [(3, .int (0 : Int32)), (0, .ref (q 0)), (1, .ref (g 0)), (2, .int a2)]) cx dX6_takeLine_95 rfl (by decide) rfl ?_
        have hL96 : ∀ (k96_138 : (Nat → Int32) → Option (T_Rd × T_Pg)), (∀ (f7 : (Nat → Int32)), k96_138 f7 = some (o_v, o_pr) → WW p l e rm_Rd_takeLine s m args below meth c D A 4 0 0 (MQ below (QV D K A (cl_Rd K q o_v ++ (cl_Pg K g o_pr))) args s 0 0 A) ([((q 0), ob 5 [.ref (q 1), .int (Rd_filled v), .int (Rd_fault v), .int (Rd_faultPlace v), .ref (q 2), .ref (q 3), .ref (q 4), .ref (q 5), .int (Rd_limit v), .int (Rd_position v), .int (Rd_token v), .int (Rd_value v), .int (Rd_place v), .int x4, .int (Rd_toldData v)]), ((q 1), aB K 700 (Rd_tape v)), ((q 2), aI K 25 (Rd_words v)), ((q 3), aI K 75 (Rd_sorts v)), ((q 4), aI K 3 (Rd_parts v)), ((q 5), aI K 64 (Rd_wantedPlaces v)), ((g 0), ob 3 [.ref (g 1), .ref (g 2), .ref (g 3), .ref (g 4), .ref (g 5), .ref (g 6), .ref (g 7), .ref (g 8), .int (Pg_nameCount pr), .int (Pg_size pr), .int (Pg_lines pr)]), ((g 1), aI K 64 (Pg_code pr)), ((g 2), aI K 64 (Pg_first pr)), ((g 3), aI K 64 (Pg_second pr)), ((g 4), aI K 64 (Pg_third pr)), ((g 5), aI K 8 f7), ((g 6), aI K 32 (Pg_data pr)), ((g 7), aI K 140 (Pg_names pr)), ((g 8), aI K 140 (Pg_namedPlaces pr))]) ([]) ([]) 138) → ∀ (n96 : Nat) (x5 : Int32) (f6 : (Nat → Int32)), f_Rd_takeLine_L96 v a2 x4 k96_138 n96 x5 f6 = some (o_v, o_pr) → WW p l e rm_Rd_takeLine s m args below meth c D A 4 0 0 (MQ below (QV D K A (cl_Rd K q o_v ++ (cl_Pg K g o_pr))) args s 0 0 A) ([((q 0), ob 5 [.ref (q 1), .int (Rd_filled v), .int (Rd_fault v), .int (Rd_faultPlace v), .ref (q 2), .ref (q 3), .ref (q 4), .ref (q 5), .int (Rd_limit v), .int (Rd_position v), .int (Rd_token v), .int (Rd_value v), .int (Rd_place v), .int x4, .int (Rd_toldData v)]), ((q 1), aB K 700 (Rd_tape v)), ((q 2), aI K 25 (Rd_words v)), ((q 3), aI K 75 (Rd_sorts v)), ((q 4), aI K 3 (Rd_parts v)), ((q 5), aI K 64 (Rd_wantedPlaces v)), ((g 0), ob 3 [.ref (g 1), .ref (g 2), .ref (g 3), .ref (g 4), .ref (g 5), .ref (g 6), .ref (g 7), .ref (g 8), .int (Pg_nameCount pr), .int (Pg_size pr), .int (Pg_lines pr)]), ((g 1), aI K 64 (Pg_code pr)), ((g 2), aI K 64 (Pg_first pr)), ((g 3), aI K 64 (Pg_second pr)), ((g 4), aI K 64 (Pg_third pr)), ((g 5), aI K 8 f6), ((g 6), aI K 32 (Pg_data pr)), ((g 7), aI K 140 (Pg_names pr)), ((g 8), aI K 140 (Pg_namedPlaces pr))]) ([(0, .ref (q 0)), (1, .ref (g 0)), (2, .int a2), (3, .int x5)]) ([]) 96 := by
          intro k96_138 hk96_138 n96
          induction n96 with
          | zero => intro x5 f6 hf; exact (nomatch (show (none : Option (T_Rd × T_Pg)) = some _ from hf))
          | succ n96 ih96 =>
            intro x5 f6 hf
            rw [f_Rd_takeLine_L96] at hf
            refine r_iload_n (pc := 96) cx dX6_takeLine_96 3 rfl ?_
            refine r_iconst (pc := 97) cx dX6_takeLine_97 ic_3 ?_
            refine r_icmp_ge (pc := 98) (tgt := 138) cx dX6_takeLine_98 (by decide) (fun h8 => ?_) (fun h8 => ?_)
            · have hf := ifp h8 hf
              refine r_loc (loc' := []) [] rfl ?_
              exact hk96_138 _ hf
            · have hf := ifn h8 hf
              refine r_aload_n (pc := 101) cx dX6_takeLine_101 0 rfl ?_
              refine r_iload_n (pc := 102) cx dX6_takeLine_102 2 rfl ?_
              refine r_iload_n (pc := 103) cx dX6_takeLine_103 3 rfl ?_
              obtain ⟨r9, hc10, hf⟩ := bd_of hf
              refine r_Vi (pc := 104) (ws' := [((q 0), ob 5 [.ref (q 1), .int (Rd_filled v), .int (Rd_fault v), .int (Rd_faultPlace v), .ref (q 2), .ref (q 3), .ref (q 4), .ref (q 5), .int (Rd_limit v), .int (Rd_position v), .int (Rd_token v), .int (Rd_value v), .int (Rd_place v), .int x4, .int (Rd_toldData v)]), ((q 1), aB K 700 (Rd_tape v)), ((q 2), aI K 25 (Rd_words v)), ((q 3), aI K 75 (Rd_sorts v)), ((q 4), aI K 3 (Rd_parts v)), ((q 5), aI K 64 (Rd_wantedPlaces v)), ((g 0), ob 3 [.ref (g 1), .ref (g 2), .ref (g 3), .ref (g 4), .ref (g 5), .ref (g 6), .ref (g 7), .ref (g 8), .int (Pg_nameCount pr), .int (Pg_size pr), .int (Pg_lines pr)]), ((g 1), aI K 64 (Pg_code pr)), ((g 2), aI K 64 (Pg_first pr)), ((g 3), aI K 64 (Pg_second pr)), ((g 4), aI K 64 (Pg_third pr)), ((g 5), aI K 8 f6), ((g 6), aI K 32 (Pg_data pr)), ((g 7), aI K 140 (Pg_names pr)), ((g 8), aI K 140 (Pg_namedPlaces pr))]) cx [.int a2, .int x5] [] [0, 1, 2, 3, 4, 5] (m_Rd_sortOf l D K q ((Rd_tape v), (Rd_filled v), (Rd_fault v), (Rd_faultPlace v), (Rd_words v), (Rd_sorts v), (Rd_parts v), (Rd_wantedPlaces v), (Rd_limit v), (Rd_position v), (Rd_token v), (Rd_value v), (Rd_place v), x4, (Rd_toldData v)) a2 x5 hc10) yv_X6_sortOf wd_653 ⟨rfl, rfl⟩ (by decide) rfl rfl rfl (by decide) 0 rfl rfl rfl (Nat.le_of_ble_eq_true rfl) dX6_takeLine_104 ?_
              refine r_bipush (pc := 107) cx dX6_takeLine_107 bp_32 ?_
              refine r_icmp_eq (pc := 109) (tgt := 132) cx dX6_takeLine_109 (by decide) (fun h11 => ?_) (fun h11 => ?_)
              · have hf := ifp h11 hf
                obtain ⟨x12, ex12, hf⟩ := nm_of hf
                refine r_iinc (pc := 132) (loc' := [(3, .int x12), (0, .ref (q 0)), (1, .ref (g 0)), (2, .int a2)]) (v := x12) cx dX6_takeLine_132 3 rfl ((congrArg (fun z => x5 + z) ic_1).trans ex12.symm) (by decide) rfl ?_
                refine r_goto (pc := 135) (tgt := 96) cx dX6_takeLine_135 (by decide) ?_
                refine r_loc (loc' := [(0, .ref (q 0)), (1, .ref (g 0)), (2, .int a2), (3, .int x12)]) [1, 2, 3, 0] rfl ?_
                exact ih96 _ _ hf
              · have hf := ifn h11 hf
                refine r_aload_n (pc := 112) cx dX6_takeLine_112 1 rfl ?_
                refine r_get (pc := 113) cx cf_X4 6 4 rfl (by decide) rfl wd_146 dX6_takeLine_113 ?_
                refine r_iload_n (pc := 116) cx dX6_takeLine_116 2 rfl ?_
                obtain ⟨r13, hc14, hf⟩ := bd_of hf
                refine r_Si (pc := 117) (ws' := [((q 0), ob 5 [.ref (q 1), .int (Rd_filled v), .int (Rd_fault v), .int (Rd_faultPlace v), .ref (q 2), .ref (q 3), .ref (q 4), .ref (q 5), .int (Rd_limit v), .int (Rd_position v), .int (Rd_token v), .int (Rd_value v), .int (Rd_place v), .int x4, .int (Rd_toldData v)]), ((q 1), aB K 700 (Rd_tape v)), ((q 2), aI K 25 (Rd_words v)), ((q 3), aI K 75 (Rd_sorts v)), ((q 4), aI K 3 (Rd_parts v)), ((q 5), aI K 64 (Rd_wantedPlaces v)), ((g 0), ob 3 [.ref (g 1), .ref (g 2), .ref (g 3), .ref (g 4), .ref (g 5), .ref (g 6), .ref (g 7), .ref (g 8), .int (Pg_nameCount pr), .int (Pg_size pr), .int (Pg_lines pr)]), ((g 1), aI K 64 (Pg_code pr)), ((g 2), aI K 64 (Pg_first pr)), ((g 3), aI K 64 (Pg_second pr)), ((g 4), aI K 64 (Pg_third pr)), ((g 5), aI K 8 f6), ((g 6), aI K 32 (Pg_data pr)), ((g 7), aI K 140 (Pg_names pr)), ((g 8), aI K 140 (Pg_namedPlaces pr))]) cx [.int a2] [.ref (g 5)] [] (m_Rd_firstRule l D K a2 hc14) ys_X6_firstRule wd_689 ⟨rfl, rfl⟩ (by decide) rfl rfl rfl (by decide) rfl (Nat.le_of_ble_eq_true rfl) dX6_takeLine_117 ?_
                refine r_iload_n (pc := 120) cx dX6_takeLine_120 3 rfl ?_
                refine r_iadd (pc := 121) cx dX6_takeLine_121 ?_
                refine r_bipush (pc := 122) cx dX6_takeLine_122 bp_7 ?_
                refine r_iand (pc := 124) cx dX6_takeLine_124 ?_
                refine r_aload_n (pc := 125) cx dX6_takeLine_125 0 rfl ?_
                refine r_get (pc := 126) cx cf_X6 0 6 rfl (by decide) rfl wd_258 dX6_takeLine_126 ?_
                refine r_iload_n (pc := 129) cx dX6_takeLine_129 3 rfl ?_
                obtain ⟨h15, hf⟩ := chk_of hf
                refine r_iald (pc := 130) cx 4 rfl h15 dX6_takeLine_130 ?_
                obtain ⟨x16, ex16, hf⟩ := nm_of hf
                refine r_nm ex16 ?_
                obtain ⟨f17, ef17, hf⟩ := nm_of hf
                refine r_iast (pc := 131) (ws' := [((q 0), ob 5 [.ref (q 1), .int (Rd_filled v), .int (Rd_fault v), .int (Rd_faultPlace v), .ref (q 2), .ref (q 3), .ref (q 4), .ref (q 5), .int (Rd_limit v), .int (Rd_position v), .int (Rd_token v), .int (Rd_value v), .int (Rd_place v), .int x4, .int (Rd_toldData v)]), ((q 1), aB K 700 (Rd_tape v)), ((q 2), aI K 25 (Rd_words v)), ((q 3), aI K 75 (Rd_sorts v)), ((q 4), aI K 3 (Rd_parts v)), ((q 5), aI K 64 (Rd_wantedPlaces v)), ((g 0), ob 3 [.ref (g 1), .ref (g 2), .ref (g 3), .ref (g 4), .ref (g 5), .ref (g 6), .ref (g 7), .ref (g 8), .int (Pg_nameCount pr), .int (Pg_size pr), .int (Pg_lines pr)]), ((g 1), aI K 64 (Pg_code pr)), ((g 2), aI K 64 (Pg_first pr)), ((g 3), aI K 64 (Pg_second pr)), ((g 4), aI K 64 (Pg_third pr)), ((g 5), aI K 8 f17), ((g 6), aI K 32 (Pg_data pr)), ((g 7), aI K 140 (Pg_names pr)), ((g 8), aI K 140 (Pg_namedPlaces pr))]) cx 11 rfl (ix_and7 _) dX6_takeLine_131 ef17 rfl ?_
                obtain ⟨x18, ex18, hf⟩ := nm_of hf
                refine r_iinc (pc := 132) (loc' := [(3, .int x18), (0, .ref (q 0)), (1, .ref (g 0)), (2, .int a2)]) (v := x18) cx dX6_takeLine_132 3 rfl ((congrArg (fun z => x5 + z) ic_1).trans ex18.symm) (by decide) rfl ?_
                refine r_goto (pc := 135) (tgt := 96) cx dX6_takeLine_135 (by decide) ?_
                refine r_loc (loc' := [(0, .ref (q 0)), (1, .ref (g 0)), (2, .int a2), (3, .int x18)]) [1, 2, 3, 0] rfl ?_
                exact ih96 _ _ hf
        refine r_loc (loc' := [(0, .ref (q 0)), (1, .ref (g 0)), (2, .int a2), (3, .int (0 : Int32))]) [1, 2, 3, 0] rfl ?_
        refine hL96 _ (fun f7 hf => ?_) _ _ _ hf
        cases hf
        exact r_vret (pc := 138) cx rfl dX6_takeLine_138
      · have hf := ifp h3 hf
        refine r_aload_n (pc := 59) cx dX6_takeLine_59 1 rfl ?_
        refine r_get (pc := 60) cx cf_X4 6 5 rfl (by decide) rfl wd_151 dX6_takeLine_60 ?_
        refine r_aload_n (pc := 63) cx dX6_takeLine_63 0 rfl ?_
        refine r_get (pc := 64) cx cf_X6 0 6 rfl (by decide) rfl wd_258 dX6_takeLine_64 ?_
        refine r_iconst (pc := 67) cx dX6_takeLine_67 ic_0 ?_
        refine r_iald (pc := 68) cx 4 rfl (by decide) dX6_takeLine_68 ?_
        refine r_bipush (pc := 69) cx dX6_takeLine_69 bp_31 ?_
        refine r_iand (pc := 71) cx dX6_takeLine_71 ?_
        refine r_aload_n (pc := 72) cx dX6_takeLine_72 0 rfl ?_
        refine r_get (pc := 73) cx cf_X6 0 6 rfl (by decide) rfl wd_258 dX6_takeLine_73 ?_
        refine r_iconst (pc := 76) cx dX6_takeLine_76 ic_1 ?_
        refine r_iald (pc := 77) cx 4 rfl (by decide) dX6_takeLine_77 ?_
        obtain ⟨x19, ex19, hf⟩ := nm_of hf
        refine r_nm ex19 ?_
        obtain ⟨f20, ef20, hf⟩ := nm_of hf
        refine r_iast (pc := 78) (ws' := [((q 0), ob 5 [.ref (q 1), .int (Rd_filled v), .int (Rd_fault v), .int (Rd_faultPlace v), .ref (q 2), .ref (q 3), .ref (q 4), .ref (q 5), .int (Rd_limit v), .int (Rd_position v), .int (Rd_token v), .int (Rd_value v), .int (Rd_place v), .int (Rd_toldRules v), .int (Rd_toldData v)]), ((q 1), aB K 700 (Rd_tape v)), ((q 2), aI K 25 (Rd_words v)), ((q 3), aI K 75 (Rd_sorts v)), ((q 4), aI K 3 (Rd_parts v)), ((q 5), aI K 64 (Rd_wantedPlaces v)), ((g 0), ob 3 [.ref (g 1), .ref (g 2), .ref (g 3), .ref (g 4), .ref (g 5), .ref (g 6), .ref (g 7), .ref (g 8), .int (Pg_nameCount pr), .int (Pg_size pr), .int (Pg_lines pr)]), ((g 1), aI K 64 (Pg_code pr)), ((g 2), aI K 64 (Pg_first pr)), ((g 3), aI K 64 (Pg_second pr)), ((g 4), aI K 64 (Pg_third pr)), ((g 5), aI K 8 (Pg_rules pr)), ((g 6), aI K 32 f20), ((g 7), aI K 140 (Pg_names pr)), ((g 8), aI K 140 (Pg_namedPlaces pr))]) cx 12 rfl (ix_and31 _) dX6_takeLine_78 ef20 rfl ?_
        refine r_goto (pc := 79) (tgt := 138) cx dX6_takeLine_79 (by decide) ?_
        cases hf
        exact r_vret (pc := 138) cx rfl dX6_takeLine_138
    · have hf := ifp h2 hf
      refine r_aload_n (pc := 41) cx dX6_takeLine_41 1 rfl ?_
      refine r_aload_n (pc := 42) cx dX6_takeLine_42 0 rfl ?_
      refine r_get (pc := 43) cx cf_X6 0 6 rfl (by decide) rfl wd_258 dX6_takeLine_43 ?_
      refine r_iconst (pc := 46) cx dX6_takeLine_46 ic_0 ?_
      refine r_iald (pc := 47) cx 4 rfl (by decide) dX6_takeLine_47 ?_
      obtain ⟨v21, hc22, hf⟩ := bd_of hf
      refine r_Vv (pc := 48) (ws' := [((q 0), ob 5 [.ref (q 1), .int (Rd_filled v), .int (Rd_fault v), .int (Rd_faultPlace v), .ref (q 2), .ref (q 3), .ref (q 4), .ref (q 5), .int (Rd_limit v), .int (Rd_position v), .int (Rd_token v), .int (Rd_value v), .int (Rd_place v), .int (Rd_toldRules v), .int (Rd_toldData v)]), ((q 1), aB K 700 (Rd_tape v)), ((q 2), aI K 25 (Rd_words v)), ((q 3), aI K 75 (Rd_sorts v)), ((q 4), aI K 3 (Rd_parts v)), ((q 5), aI K 64 (Rd_wantedPlaces v)), ((g 0), ob 3 [.ref (g 1), .ref (g 2), .ref (g 3), .ref (g 4), .ref (g 5), .ref (g 6), .ref (g 7), .ref (g 8), .int (Pg_nameCount v21), .int (Pg_size v21), .int (Pg_lines v21)]), ((g 1), aI K 64 (Pg_code v21)), ((g 2), aI K 64 (Pg_first v21)), ((g 3), aI K 64 (Pg_second v21)), ((g 4), aI K 64 (Pg_third v21)), ((g 5), aI K 8 (Pg_rules v21)), ((g 6), aI K 32 (Pg_data v21)), ((g 7), aI K 140 (Pg_names v21)), ((g 8), aI K 140 (Pg_namedPlaces v21))]) cx [.int ((Rd_parts v) (0 : Int32).toNatClampNeg)] [] [6, 7, 8, 9, 10, 11, 12, 13, 14] (m_Pg_nameNext l D K g pr ((Rd_parts v) (0 : Int32).toNatClampNeg) hc22) yv_X4_nameNext wd_685 ⟨rfl, rfl⟩ (by decide) rfl rfl rfl (by decide) 6 rfl rfl rfl (Nat.le_of_ble_eq_true rfl) dX6_takeLine_48 ?_
      refine r_goto (pc := 51) (tgt := 138) cx dX6_takeLine_51 (by decide) ?_
      cases hf
      exact r_vret (pc := 138) cx rfl dX6_takeLine_138
  · have hf := ifn h1 hf
    refine r_aload_n (pc := 6) cx dX6_takeLine_6 1 rfl ?_
    refine r_iload_n (pc := 7) cx dX6_takeLine_7 2 rfl ?_
    refine r_bipush (pc := 8) cx dX6_takeLine_8 bp_7 ?_
    refine r_isub (pc := 10) cx dX6_takeLine_10 ?_
    refine r_aload_n (pc := 11) cx dX6_takeLine_11 0 rfl ?_
    refine r_get (pc := 12) cx cf_X6 0 6 rfl (by decide) rfl wd_258 dX6_takeLine_12 ?_
    refine r_iconst (pc := 15) cx dX6_takeLine_15 ic_0 ?_
    refine r_iald (pc := 16) cx 4 rfl (by decide) dX6_takeLine_16 ?_
    refine r_aload_n (pc := 17) cx dX6_takeLine_17 0 rfl ?_
    refine r_get (pc := 18) cx cf_X6 0 6 rfl (by decide) rfl wd_258 dX6_takeLine_18 ?_
    refine r_iconst (pc := 21) cx dX6_takeLine_21 ic_1 ?_
    refine r_iald (pc := 22) cx 4 rfl (by decide) dX6_takeLine_22 ?_
    refine r_aload_n (pc := 23) cx dX6_takeLine_23 0 rfl ?_
    refine r_get (pc := 24) cx cf_X6 0 6 rfl (by decide) rfl wd_258 dX6_takeLine_24 ?_
    refine r_iconst (pc := 27) cx dX6_takeLine_27 ic_2 ?_
    refine r_iald (pc := 28) cx 4 rfl (by decide) dX6_takeLine_28 ?_
    obtain ⟨v23, hc24, hf⟩ := bd_of hf
    refine r_Vv (pc := 29) (ws' := [((q 0), ob 5 [.ref (q 1), .int (Rd_filled v), .int (Rd_fault v), .int (Rd_faultPlace v), .ref (q 2), .ref (q 3), .ref (q 4), .ref (q 5), .int (Rd_limit v), .int (Rd_position v), .int (Rd_token v), .int (Rd_value v), .int (Rd_place v), .int (Rd_toldRules v), .int (Rd_toldData v)]), ((q 1), aB K 700 (Rd_tape v)), ((q 2), aI K 25 (Rd_words v)), ((q 3), aI K 75 (Rd_sorts v)), ((q 4), aI K 3 (Rd_parts v)), ((q 5), aI K 64 (Rd_wantedPlaces v)), ((g 0), ob 3 [.ref (g 1), .ref (g 2), .ref (g 3), .ref (g 4), .ref (g 5), .ref (g 6), .ref (g 7), .ref (g 8), .int (Pg_nameCount v23), .int (Pg_size v23), .int (Pg_lines v23)]), ((g 1), aI K 64 (Pg_code v23)), ((g 2), aI K 64 (Pg_first v23)), ((g 3), aI K 64 (Pg_second v23)), ((g 4), aI K 64 (Pg_third v23)), ((g 5), aI K 8 (Pg_rules v23)), ((g 6), aI K 32 (Pg_data v23)), ((g 7), aI K 140 (Pg_names v23)), ((g 8), aI K 140 (Pg_namedPlaces v23))]) cx [.int (a2 - (7 : Int32)), .int ((Rd_parts v) (0 : Int32).toNatClampNeg), .int ((Rd_parts v) (1 : Int32).toNatClampNeg), .int ((Rd_parts v) (2 : Int32).toNatClampNeg)] [] [6, 7, 8, 9, 10, 11, 12, 13, 14] (m_Pg_append l D K g pr (a2 - (7 : Int32)) ((Rd_parts v) (0 : Int32).toNatClampNeg) ((Rd_parts v) (1 : Int32).toNatClampNeg) ((Rd_parts v) (2 : Int32).toNatClampNeg) hc24) yv_X4_append wd_681 ⟨rfl, rfl⟩ (by decide) rfl rfl rfl (by decide) 6 rfl rfl rfl (Nat.le_of_ble_eq_true rfl) dX6_takeLine_29 ?_
    refine r_goto (pc := 32) (tgt := 138) cx dX6_takeLine_32 (by decide) ?_
    cases hf
    exact r_vret (pc := 138) cx rfl dX6_takeLine_138
theorem yv_X6_takeLine : YV yX6_takeLine cX6_takeLine 4 (none) 2 := ⟨⟨by decide +kernel, by decide +kernel, by decide +kernel⟩, wd_680, wd_90, wd_679, wd_12⟩
def f_Rd_readLine_L109 (pr : T_Pg) (y1 : Int32) (k109_154 : T_Rd → Option (T_Rd × T_Pg)) : Nat → Int32 → T_Rd → Option (T_Rd × T_Pg)
  | 0, _, _ => none
  | n109 + 1, x8, v9 =>
    (if (3 : Int32) ≤ x8 then (k109_154 v9) else (if (Rd_fault v9) = (0 : Int32) then (bd (f_Rd_sortOf v9 y1 x8) fun (r13 : Int32) => (if r13 = (32 : Int32) then (nm (x8 + (1 : Int32)) fun (x16 : Int32) => (f_Rd_readLine_L109 pr y1 k109_154 n109 x16 v9)) else (bd (f_Rd_advance v9) fun (v17 : T_Rd) => (bd (f_Rd_readPart v17 pr r13 x8) fun (v19 : T_Rd) => (nm (x8 + (1 : Int32)) fun (x21 : Int32) => (f_Rd_readLine_L109 pr y1 k109_154 n109 x21 v19)))))) else (k109_154 v9)))
def f_Rd_readLine (v : T_Rd) (pr : T_Pg) : Option (T_Rd × T_Pg) :=
  (nm (fun (y1 : Int32) => ((nm (fun (v3 : T_Rd) => ((nm (upd (Rd_parts v3) (0 : Int32).toNatClampNeg (0 : Int32)) fun (f5 : Nat → Int32) => (nm (upd f5 (1 : Int32).toNatClampNeg (0 : Int32)) fun (f6 : Nat → Int32) => (nm (upd f6 (2 : Int32).toNatClampNeg (0 : Int32)) fun (f7 : Nat → Int32) => (f_Rd_readLine_L109 pr y1 (fun (v10 : T_Rd) => (nm (fun (v22 : T_Rd) => ((if (Rd_fault v22) = (0 : Int32) then (nm ((Pg_lines pr) + (1 : Int32)) fun (x25 : Int32) => (bd2 (f_Rd_takeLine v22 ((Pg_code pr), (Pg_first pr), (Pg_second pr), (Pg_third pr), (Pg_rules pr), (Pg_data pr), (Pg_names pr), (Pg_namedPlaces pr), (Pg_nameCount pr), (Pg_size pr), x25) y1) fun (v26 : T_Rd) (v27 : T_Pg) => (some (v26, v27)))) else (some (v22, pr))) : Option (T_Rd × T_Pg))) fun J23 => (if (Rd_fault v10) = (0 : Int32) then (bd (f_Rd_advance v10) fun (v30 : T_Rd) => (if (Rd_token v30) = (3 : Int32) then (J23 v30) else (bd (f_Rd_fail v30 (1 : Int32) (Rd_place v30)) fun (v33 : T_Rd) => (J23 v33)))) else (J23 v10)))) LF (0 : Int32) ((Rd_tape v3), (Rd_filled v3), (Rd_fault v3), (Rd_faultPlace v3), (Rd_words v3), (Rd_sorts v3), f7, (Rd_wantedPlaces v3), (Rd_limit v3), (Rd_position v3), (Rd_token v3), (Rd_value v3), (Rd_place v3), (Rd_toldRules v3), (Rd_toldData v3)))))) : Option (T_Rd × T_Pg))) fun J4 => (if y1 = (-1 : Int32) then (bd (f_Rd_fail v (1 : Int32) (Rd_place v)) fun (v46 : T_Rd) => (J4 v46)) else (if y1 < (7 : Int32) then (if (((Rd_toldRules v) >>> (y1 &&& 31)) &&& (1 : Int32)) = (1 : Int32) then (bd (f_Rd_fail v (3 : Int32) (Rd_place v)) fun (v38 : T_Rd) => (J4 v38)) else (J4 v)) else (if (Pg_size pr) < (40 : Int32) then (if (((Rd_toldRules v) >>> (y1 &&& 31)) &&& (1 : Int32)) = (1 : Int32) then (bd (f_Rd_fail v (3 : Int32) (Rd_place v)) fun (v42 : T_Rd) => (J4 v42)) else (J4 v)) else (bd (f_Rd_fail v (2 : Int32) (Rd_place v)) fun (v44 : T_Rd) => (J4 v44)))))) : Option (T_Rd × T_Pg))) fun J2 => (if (Rd_token v) = (1 : Int32) then (bd (f_Rd_wordNumber v (Rd_value v)) fun (r49 : Int32) => (J2 r49)) else (J2 (-1 : Int32))))
abbrev rm_Rd_readLine : Room := { frames := 3, cells := 0, slots := 0, locals := 67 }
set_option maxRecDepth 100000 in
set_option maxHeartbeats 4000000 in
theorem m_Rd_readLine (l : Launch) (D : va_G) (K : Nat → ClassId) (q : Nat → Nat) (v : T_Rd) (g : Nat → Nat) (pr : T_Pg) {o_v : T_Rd} {o_pr : T_Pg} (hf : f_Rd_readLine v pr = some (o_v, o_pr)) : MV l yX6_readLine cX6_readLine 5 (none) rm_Rd_readLine D K [.ref (q 0), .ref (g 0)] (cl_Rd K q v ++ (cl_Pg K g pr)) (cl_Rd K q o_v ++ (cl_Pg K g o_pr)) := by
  refine MV_of (loc0 := [(0, .ref (q 0)), (1, .ref (g 0))]) (by decide +kernel) rfl (Nat.le_of_ble_eq_true rfl) ?_
  intro p e s m args below meth c A cx
  unfold f_Rd_readLine at hf
  refine r_ws (ws' := [((q 0), ob 5 [.ref (q 1), .int (Rd_filled v), .int (Rd_fault v), .int (Rd_faultPlace v), .ref (q 2), .ref (q 3), .ref (q 4), .ref (q 5), .int (Rd_limit v), .int (Rd_position v), .int (Rd_token v), .int (Rd_value v), .int (Rd_place v), .int (Rd_toldRules v), .int (Rd_toldData v)]), ((q 1), aB K 700 (Rd_tape v)), ((q 2), aI K 25 (Rd_words v)), ((q 3), aI K 75 (Rd_sorts v)), ((q 4), aI K 3 (Rd_parts v)), ((q 5), aI K 64 (Rd_wantedPlaces v)), ((g 0), ob 3 [.ref (g 1), .ref (g 2), .ref (g 3), .ref (g 4), .ref (g 5), .ref (g 6), .ref (g 7), .ref (g 8), .int (Pg_nameCount pr), .int (Pg_size pr), .int (Pg_lines pr)]), ((g 1), aI K 64 (Pg_code pr)), ((g 2), aI K 64 (Pg_first pr)), ((g 3), aI K 64 (Pg_second pr)), ((g 4), aI K 64 (Pg_third pr)), ((g 5), aI K 8 (Pg_rules pr)), ((g 6), aI K 32 (Pg_data pr)), ((g 7), aI K 140 (Pg_names pr)), ((g 8), aI K 140 (Pg_namedPlaces pr))]) rfl ?_
  refine r_aload_n (pc := 0) cx dX6_readLine_0 0 rfl ?_
  refine r_get (pc := 1) cx cf_X6 0 10 rfl (by decide) rfl wd_262 dX6_readLine_1 ?_
  refine r_iconst (pc := 4) cx dX6_readLine_4 ic_1 ?_
  obtain ⟨J2, eJ2, hf⟩ := nm_of hf
  have hJ2 : ∀ (y1 : Int32), J2 y1 = some (o_v, o_pr) → WW p l e rm_Rd_readLine s m args below meth c D A 5 0 0 (MQ below (QV D K A (cl_Rd K q o_v ++ (cl_Pg K g o_pr))) args s 0 0 A) ([((q 0), ob 5 [.ref (q 1), .int (Rd_filled v), .int (Rd_fault v), .int (Rd_faultPlace v), .ref (q 2), .ref (q 3), .ref (q 4), .ref (q 5), .int (Rd_limit v), .int (Rd_position v), .int (Rd_token v), .int (Rd_value v), .int (Rd_place v), .int (Rd_toldRules v), .int (Rd_toldData v)]), ((q 1), aB K 700 (Rd_tape v)), ((q 2), aI K 25 (Rd_words v)), ((q 3), aI K 75 (Rd_sorts v)), ((q 4), aI K 3 (Rd_parts v)), ((q 5), aI K 64 (Rd_wantedPlaces v)), ((g 0), ob 3 [.ref (g 1), .ref (g 2), .ref (g 3), .ref (g 4), .ref (g 5), .ref (g 6), .ref (g 7), .ref (g 8), .int (Pg_nameCount pr), .int (Pg_size pr), .int (Pg_lines pr)]), ((g 1), aI K 64 (Pg_code pr)), ((g 2), aI K 64 (Pg_first pr)), ((g 3), aI K 64 (Pg_second pr)), ((g 4), aI K 64 (Pg_third pr)), ((g 5), aI K 8 (Pg_rules pr)), ((g 6), aI K 32 (Pg_data pr)), ((g 7), aI K 140 (Pg_names pr)), ((g 8), aI K 140 (Pg_namedPlaces pr))]) ([(0, .ref (q 0)), (1, .ref (g 0))]) ([.int y1]) 20 := by
    intro y1 hf
    rw [eJ2] at hf
    refine r_istore_n (pc := 20) (loc' := [(2, .int y1), (0, .ref (q 0)), (1, .ref (g 0))]) cx dX6_readLine_20 rfl (by decide) rfl ?_
    refine r_iload_n (pc := 21) cx dX6_readLine_21 0 rfl ?_
    refine r_iconst (pc := 22) cx dX6_readLine_22 ic_m1 ?_
    obtain ⟨J4, eJ4, hf⟩ := nm_of hf
    have hJ4 : ∀ (v3 : T_Rd), J4 v3 = some (o_v, o_pr) → WW p l e rm_Rd_readLine s m args below meth c D A 5 0 0 (MQ below (QV D K A (cl_Rd K q o_v ++ (cl_Pg K g o_pr))) args s 0 0 A) ([((q 0), ob 5 [.ref (q 1), .int (Rd_filled v3), .int (Rd_fault v3), .int (Rd_faultPlace v3), .ref (q 2), .ref (q 3), .ref (q 4), .ref (q 5), .int (Rd_limit v3), .int (Rd_position v3), .int (Rd_token v3), .int (Rd_value v3), .int (Rd_place v3), .int (Rd_toldRules v3), .int (Rd_toldData v3)]), ((q 1), aB K 700 (Rd_tape v3)), ((q 2), aI K 25 (Rd_words v3)), ((q 3), aI K 75 (Rd_sorts v3)), ((q 4), aI K 3 (Rd_parts v3)), ((q 5), aI K 64 (Rd_wantedPlaces v3)), ((g 0), ob 3 [.ref (g 1), .ref (g 2), .ref (g 3), .ref (g 4), .ref (g 5), .ref (g 6), .ref (g 7), .ref (g 8), .int (Pg_nameCount pr), .int (Pg_size pr), .int (Pg_lines pr)]), ((g 1), aI K 64 (Pg_code pr)), ((g 2), aI K 64 (Pg_first pr)), ((g 3), aI K 64 (Pg_second pr)), ((g 4), aI K 64 (Pg_third pr)), ((g 5), aI K 8 (Pg_rules pr)), ((g 6), aI K 32 (Pg_data pr)), ((g 7), aI K 140 (Pg_names pr)), ((g 8), aI K 140 (Pg_namedPlaces pr))]) ([(0, .ref (q 0)), (1, .ref (g 0)), (2, .int y1)]) ([]) 86 := by
      intro v3 hf
      rw [eJ4] at hf
      refine r_aload_n (pc := 86) cx dX6_readLine_86 0 rfl ?_
      refine r_get (pc := 87) cx cf_X6 0 6 rfl (by decide) rfl wd_258 dX6_readLine_87 ?_
      refine r_iconst (pc := 90) cx dX6_readLine_90 ic_0 ?_
      refine r_iconst (pc := 91) cx dX6_readLine_91 ic_0 ?_
      obtain ⟨f5, ef5, hf⟩ := nm_of hf
      refine r_iast (pc := 92) (ws' := [((q 0), ob 5 [.ref (q 1), .int (Rd_filled v3), .int (Rd_fault v3), .int (Rd_faultPlace v3), .ref (q 2), .ref (q 3), .ref (q 4), .ref (q 5), .int (Rd_limit v3), .int (Rd_position v3), .int (Rd_token v3), .int (Rd_value v3), .int (Rd_place v3), .int (Rd_toldRules v3), .int (Rd_toldData v3)]), ((q 1), aB K 700 (Rd_tape v3)), ((q 2), aI K 25 (Rd_words v3)), ((q 3), aI K 75 (Rd_sorts v3)), ((q 4), aI K 3 f5), ((q 5), aI K 64 (Rd_wantedPlaces v3)), ((g 0), ob 3 [.ref (g 1), .ref (g 2), .ref (g 3), .ref (g 4), .ref (g 5), .ref (g 6), .ref (g 7), .ref (g 8), .int (Pg_nameCount pr), .int (Pg_size pr), .int (Pg_lines pr)]), ((g 1), aI K 64 (Pg_code pr)), ((g 2), aI K 64 (Pg_first pr)), ((g 3), aI K 64 (Pg_second pr)), ((g 4), aI K 64 (Pg_third pr)), ((g 5), aI K 8 (Pg_rules pr)), ((g 6), aI K 32 (Pg_data pr)), ((g 7), aI K 140 (Pg_names pr)), ((g 8), aI K 140 (Pg_namedPlaces pr))]) cx 4 rfl (by decide) dX6_readLine_92 ef5 rfl ?_
      refine r_aload_n (pc := 93) cx dX6_readLine_93 0 rfl ?_
      refine r_get (pc := 94) cx cf_X6 0 6 rfl (by decide) rfl wd_258 dX6_readLine_94 ?_
      refine r_iconst (pc := 97) cx dX6_readLine_97 ic_1 ?_
      refine r_iconst (pc := 98) cx dX6_readLine_98 ic_0 ?_
      obtain ⟨f6, ef6, hf⟩ := nm_of hf
      refine r_iast (pc := 99) (ws' := [((q 0), ob 5 [.ref (q 1), .int (Rd_filled v3), .int (Rd_fault v3), .int (Rd_faultPlace v3), .ref (q 2), .ref (q 3), .ref (q 4), .ref (q 5), .int (Rd_limit v3), .int (Rd_position v3), .int (Rd_token v3), .int (Rd_value v3), .int (Rd_place v3), .int (Rd_toldRules v3), .int (Rd_toldData v3)]), ((q 1), aB K 700 (Rd_tape v3)), ((q 2), aI K 25 (Rd_words v3)), ((q 3), aI K 75 (Rd_sorts v3)), ((q 4), aI K 3 f6), ((q 5), aI K 64 (Rd_wantedPlaces v3)), ((g 0), ob 3 [.ref (g 1), .ref (g 2), .ref (g 3), .ref (g 4), .ref (g 5), .ref (g 6), .ref (g 7), .ref (g 8), .int (Pg_nameCount pr), .int (Pg_size pr), .int (Pg_lines pr)]), ((g 1), aI K 64 (Pg_code pr)), ((g 2), aI K 64 (Pg_first pr)), ((g 3), aI K 64 (Pg_second pr)), ((g 4), aI K 64 (Pg_third pr)), ((g 5), aI K 8 (Pg_rules pr)), ((g 6), aI K 32 (Pg_data pr)), ((g 7), aI K 140 (Pg_names pr)), ((g 8), aI K 140 (Pg_namedPlaces pr))]) cx 4 rfl (by decide) dX6_readLine_99 ef6 rfl ?_
      refine r_aload_n (pc := 100) cx dX6_readLine_100 0 rfl ?_
      refine r_get (pc := 101) cx cf_X6 0 6 rfl (by decide) rfl wd_258 dX6_readLine_101 ?_
      refine r_iconst (pc := 104) cx dX6_readLine_104 ic_2 ?_
      refine r_iconst (pc := 105) cx dX6_readLine_105 ic_0 ?_
      obtain ⟨f7, ef7, hf⟩ := nm_of hf
      refine r_iast (pc := 106) (ws' := [((q 0), ob 5 [.ref (q 1), .int (Rd_filled v3), .int (Rd_fault v3), .int (Rd_faultPlace v3), .ref (q 2), .ref (q 3), .ref (q 4), .ref (q 5), .int (Rd_limit v3), .int (Rd_position v3), .int (Rd_token v3), .int (Rd_value v3), .int (Rd_place v3), .int (Rd_toldRules v3), .int (Rd_toldData v3)]), ((q 1), aB K 700 (Rd_tape v3)), ((q 2), aI K 25 (Rd_words v3)), ((q 3), aI K 75 (Rd_sorts v3)), ((q 4), aI K 3 f7), ((q 5), aI K 64 (Rd_wantedPlaces v3)), ((g 0), ob 3 [.ref (g 1), .ref (g 2), .ref (g 3), .ref (g 4), .ref (g 5), .ref (g 6), .ref (g 7), .ref (g 8), .int (Pg_nameCount pr), .int (Pg_size pr), .int (Pg_lines pr)]), ((g 1), aI K 64 (Pg_code pr)), ((g 2), aI K 64 (Pg_first pr)), ((g 3), aI K 64 (Pg_second pr)), ((g 4), aI K 64 (Pg_third pr)), ((g 5), aI K 8 (Pg_rules pr)), ((g 6), aI K 32 (Pg_data pr)), ((g 7), aI K 140 (Pg_names pr)), ((g 8), aI K 140 (Pg_namedPlaces pr))]) cx 4 rfl (by decide) dX6_readLine_106 ef7 rfl ?_
      refine r_iconst (pc := 107) cx dX6_readLine_107 ic_0 ?_
      refine r_istore_n (pc := 108) (loc' := [(3, .int (0 : Int32)), (0, .ref (q 0)), (1, .ref (g 0)), (2, .int y1)]) cx dX6_readLine_108 rfl (by decide) rfl ?_
      have hL109 : ∀ (k109_154 : T_Rd → Option (T_Rd × T_Pg)), (∀ (v10 : T_Rd), k109_154 v10 = some (o_v, o_pr) → WW p l e rm_Rd_readLine s m args below meth c D A 5 0 0 (MQ below (QV D K A (cl_Rd K q o_v ++ (cl_Pg K g o_pr))) args s 0 0 A) ([((q 0), ob 5 [.ref (q 1), .int (Rd_filled v10), .int (Rd_fault v10), .int (Rd_faultPlace v10), .ref (q 2), .ref (q 3), .ref (q 4), .ref (q 5), .int (Rd_limit v10), .int (Rd_position v10), .int (Rd_token v10), .int (Rd_value v10), .int (Rd_place v10), .int (Rd_toldRules v10), .int (Rd_toldData v10)]), ((q 1), aB K 700 (Rd_tape v10)), ((q 2), aI K 25 (Rd_words v10)), ((q 3), aI K 75 (Rd_sorts v10)), ((q 4), aI K 3 (Rd_parts v10)), ((q 5), aI K 64 (Rd_wantedPlaces v10)), ((g 0), ob 3 [.ref (g 1), .ref (g 2), .ref (g 3), .ref (g 4), .ref (g 5), .ref (g 6), .ref (g 7), .ref (g 8), .int (Pg_nameCount pr), .int (Pg_size pr), .int (Pg_lines pr)]), ((g 1), aI K 64 (Pg_code pr)), ((g 2), aI K 64 (Pg_first pr)), ((g 3), aI K 64 (Pg_second pr)), ((g 4), aI K 64 (Pg_third pr)), ((g 5), aI K 8 (Pg_rules pr)), ((g 6), aI K 32 (Pg_data pr)), ((g 7), aI K 140 (Pg_names pr)), ((g 8), aI K 140 (Pg_namedPlaces pr))]) ([(0, .ref (q 0)), (1, .ref (g 0)), (2, .int y1)]) ([]) 154) → ∀ (n109 : Nat) (x8 : Int32) (v9 : T_Rd), f_Rd_readLine_L109 pr y1 k109_154 n109 x8 v9 = some (o_v, o_pr) → WW p l e rm_Rd_readLine s m args below meth c D A 5 0 0 (MQ below (QV D K A (cl_Rd K q o_v ++ (cl_Pg K g o_pr))) args s 0 0 A) ([((q 0), ob 5 [.ref (q 1), .int (Rd_filled v9), .int (Rd_fault v9), .int (Rd_faultPlace v9), .ref (q 2), .ref (q 3), .ref (q 4), .ref (q 5), .int (Rd_limit v9), .int (Rd_position v9), .int (Rd_token v9), .int (Rd_value v9), .int (Rd_place v9), .int (Rd_toldRules v9), .int (Rd_toldData v9)]), ((q 1), aB K 700 (Rd_tape v9)), ((q 2), aI K 25 (Rd_words v9)), ((q 3), aI K 75 (Rd_sorts v9)), ((q 4), aI K 3 (Rd_parts v9)), ((q 5), aI K 64 (Rd_wantedPlaces v9)), ((g 0), ob 3 [.ref (g 1), .ref (g 2), .ref (g 3), .ref (g 4), .ref (g 5), .ref (g 6), .ref (g 7), .ref (g 8), .int (Pg_nameCount pr), .int (Pg_size pr), .int (Pg_lines pr)]), ((g 1), aI K 64 (Pg_code pr)), ((g 2), aI K 64 (Pg_first pr)), ((g 3), aI K 64 (Pg_second pr)), ((g 4), aI K 64 (Pg_third pr)), ((g 5), aI K 8 (Pg_rules pr)), ((g 6), aI K 32 (Pg_data pr)), ((g 7), aI K 140 (Pg_names pr)), ((g 8), aI K 140 (Pg_namedPlaces pr))]) ([(0, .ref (q 0)), (1, .ref (g 0)), (2, .int y1), (3, .int x8)]) ([]) 109 := by
        intro k109_154 hk109_154 n109
        induction n109 with
        | zero => intro x8 v9 hf; exact (nomatch (show (none : Option (T_Rd × T_Pg)) = some _ from hf))
        | succ n109 ih109 =>
          intro x8 v9 hf
          rw [f_Rd_readLine_L109] at hf
          refine r_iload_n (pc := 109) cx dX6_readLine_109 3 rfl ?_
          refine r_iconst (pc := 110) cx dX6_readLine_110 ic_3 ?_
          refine r_icmp_ge (pc := 111) (tgt := 154) cx dX6_readLine_111 (by decide) (fun h11 => ?_) (fun h11 => ?_)
          · have hf := ifp h11 hf
            refine r_loc (loc' := [(0, .ref (q 0)), (1, .ref (g 0)), (2, .int y1)]) [0, 1, 2] rfl ?_
            exact hk109_154 _ hf
          · have hf := ifn h11 hf
            refine r_aload_n (pc := 114) cx dX6_readLine_114 0 rfl ?_
            refine r_get (pc := 115) cx cf_X6 0 2 rfl (by decide) rfl wd_253 dX6_readLine_115 ?_
            refine r_if_ne (pc := 118) (tgt := 154) cx dX6_readLine_118 (by decide) (fun h12 => ?_) (fun h12 => ?_)
            · have hf := ifn h12 hf
              refine r_loc (loc' := [(0, .ref (q 0)), (1, .ref (g 0)), (2, .int y1)]) [0, 1, 2] rfl ?_
              exact hk109_154 _ hf
            · have hf := ifp h12 hf
              refine r_aload_n (pc := 121) cx dX6_readLine_121 0 rfl ?_
              refine r_iload_n (pc := 122) cx dX6_readLine_122 2 rfl ?_
              refine r_iload_n (pc := 123) cx dX6_readLine_123 3 rfl ?_
              obtain ⟨r13, hc14, hf⟩ := bd_of hf
              refine r_Vi (pc := 124) (ws' := [((q 0), ob 5 [.ref (q 1), .int (Rd_filled v9), .int (Rd_fault v9), .int (Rd_faultPlace v9), .ref (q 2), .ref (q 3), .ref (q 4), .ref (q 5), .int (Rd_limit v9), .int (Rd_position v9), .int (Rd_token v9), .int (Rd_value v9), .int (Rd_place v9), .int (Rd_toldRules v9), .int (Rd_toldData v9)]), ((q 1), aB K 700 (Rd_tape v9)), ((q 2), aI K 25 (Rd_words v9)), ((q 3), aI K 75 (Rd_sorts v9)), ((q 4), aI K 3 (Rd_parts v9)), ((q 5), aI K 64 (Rd_wantedPlaces v9)), ((g 0), ob 3 [.ref (g 1), .ref (g 2), .ref (g 3), .ref (g 4), .ref (g 5), .ref (g 6), .ref (g 7), .ref (g 8), .int (Pg_nameCount pr), .int (Pg_size pr), .int (Pg_lines pr)]), ((g 1), aI K 64 (Pg_code pr)), ((g 2), aI K 64 (Pg_first pr)), ((g 3), aI K 64 (Pg_second pr)), ((g 4), aI K 64 (Pg_third pr)), ((g 5), aI K 8 (Pg_rules pr)), ((g 6), aI K 32 (Pg_data pr)), ((g 7), aI K 140 (Pg_names pr)), ((g 8), aI K 140 (Pg_namedPlaces pr))]) cx [.int y1, .int x8] [] [0, 1, 2, 3, 4, 5] (m_Rd_sortOf l D K q v9 y1 x8 hc14) yv_X6_sortOf wd_653 ⟨rfl, rfl⟩ (by decide) rfl rfl rfl (by decide) 0 rfl rfl rfl (Nat.le_of_ble_eq_true rfl) dX6_readLine_124 ?_
              refine r_istore (pc := 127) (loc' := [(4, .int r13), (0, .ref (q 0)), (1, .ref (g 0)), (2, .int y1), (3, .int x8)]) cx dX6_readLine_127 (by decide) rfl ?_
              refine r_iload (pc := 129) cx dX6_readLine_129 0 rfl ?_
              refine r_bipush (pc := 131) cx dX6_readLine_131 bp_32 ?_
              refine r_icmp_eq (pc := 133) (tgt := 148) cx dX6_readLine_133 (by decide) (fun h15 => ?_) (fun h15 => ?_)
              · have hf := ifp h15 hf
                obtain ⟨x16, ex16, hf⟩ := nm_of hf
                refine r_iinc (pc := 148) (loc' := [(3, .int x16), (4, .int r13), (0, .ref (q 0)), (1, .ref (g 0)), (2, .int y1)]) (v := x16) cx dX6_readLine_148 4 rfl ((congrArg (fun z => x8 + z) ic_1).trans ex16.symm) (by decide) rfl ?_
                refine r_goto (pc := 151) (tgt := 109) cx dX6_readLine_151 (by decide) ?_
                refine r_loc (loc' := [(0, .ref (q 0)), (1, .ref (g 0)), (2, .int y1), (3, .int x16)]) [2, 3, 4, 0] rfl ?_
                exact ih109 _ _ hf
              · have hf := ifn h15 hf
                refine r_aload_n (pc := 136) cx dX6_readLine_136 1 rfl ?_
                obtain ⟨v17, hc18, hf⟩ := bd_of hf
                refine r_Vv (pc := 137) (ws' := [((q 0), ob 5 [.ref (q 1), .int (Rd_filled v17), .int (Rd_fault v17), .int (Rd_faultPlace v17), .ref (q 2), .ref (q 3), .ref (q 4), .ref (q 5), .int (Rd_limit v17), .int (Rd_position v17), .int (Rd_token v17), .int (Rd_value v17), .int (Rd_place v17), .int (Rd_toldRules v17), .int (Rd_toldData v17)]), ((q 1), aB K 700 (Rd_tape v17)), ((q 2), aI K 25 (Rd_words v17)), ((q 3), aI K 75 (Rd_sorts v17)), ((q 4), aI K 3 (Rd_parts v17)), ((q 5), aI K 64 (Rd_wantedPlaces v17)), ((g 0), ob 3 [.ref (g 1), .ref (g 2), .ref (g 3), .ref (g 4), .ref (g 5), .ref (g 6), .ref (g 7), .ref (g 8), .int (Pg_nameCount pr), .int (Pg_size pr), .int (Pg_lines pr)]), ((g 1), aI K 64 (Pg_code pr)), ((g 2), aI K 64 (Pg_first pr)), ((g 3), aI K 64 (Pg_second pr)), ((g 4), aI K 64 (Pg_third pr)), ((g 5), aI K 8 (Pg_rules pr)), ((g 6), aI K 32 (Pg_data pr)), ((g 7), aI K 140 (Pg_names pr)), ((g 8), aI K 140 (Pg_namedPlaces pr))]) cx [] [] [0, 1, 2, 3, 4, 5] (m_Rd_advance l D K q v9 hc18) yv_X6_advance wd_621 ⟨rfl, rfl⟩ (by decide) rfl rfl rfl (by decide) 0 rfl rfl rfl (Nat.le_of_ble_eq_true rfl) dX6_readLine_137 ?_
                refine r_aload_n (pc := 140) cx dX6_readLine_140 1 rfl ?_
                refine r_aload_n (pc := 141) cx dX6_readLine_141 2 rfl ?_
                refine r_iload (pc := 142) cx dX6_readLine_142 0 rfl ?_
                refine r_iload_n (pc := 144) cx dX6_readLine_144 4 rfl ?_
                obtain ⟨v19, hc20, hf⟩ := bd_of hf
                refine r_Vv (pc := 145) (ws' := [((q 0), ob 5 [.ref (q 1), .int (Rd_filled v19), .int (Rd_fault v19), .int (Rd_faultPlace v19), .ref (q 2), .ref (q 3), .ref (q 4), .ref (q 5), .int (Rd_limit v19), .int (Rd_position v19), .int (Rd_token v19), .int (Rd_value v19), .int (Rd_place v19), .int (Rd_toldRules v19), .int (Rd_toldData v19)]), ((q 1), aB K 700 (Rd_tape v19)), ((q 2), aI K 25 (Rd_words v19)), ((q 3), aI K 75 (Rd_sorts v19)), ((q 4), aI K 3 (Rd_parts v19)), ((q 5), aI K 64 (Rd_wantedPlaces v19)), ((g 0), ob 3 [.ref (g 1), .ref (g 2), .ref (g 3), .ref (g 4), .ref (g 5), .ref (g 6), .ref (g 7), .ref (g 8), .int (Pg_nameCount pr), .int (Pg_size pr), .int (Pg_lines pr)]), ((g 1), aI K 64 (Pg_code pr)), ((g 2), aI K 64 (Pg_first pr)), ((g 3), aI K 64 (Pg_second pr)), ((g 4), aI K 64 (Pg_third pr)), ((g 5), aI K 8 (Pg_rules pr)), ((g 6), aI K 32 (Pg_data pr)), ((g 7), aI K 140 (Pg_names pr)), ((g 8), aI K 140 (Pg_namedPlaces pr))]) cx [.ref (g 0), .int r13, .int x8] [] [0, 1, 2, 3, 4, 5, 6, 7, 8, 9, 10, 11, 12, 13, 14] (m_Rd_readPart l D K q v17 g pr r13 x8 hc20) yv_X6_readPart wd_657 ⟨rfl, rfl⟩ (by decide) rfl rfl rfl (by decide) 0 rfl rfl rfl (Nat.le_of_ble_eq_true rfl) dX6_readLine_145 ?_
                obtain ⟨x21, ex21, hf⟩ := nm_of hf
                refine r_iinc (pc := 148) (loc' := [(3, .int x21), (4, .int r13), (0, .ref (q 0)), (1, .ref (g 0)), (2, .int y1)]) (v := x21) cx dX6_readLine_148 4 rfl ((congrArg (fun z => x8 + z) ic_1).trans ex21.symm) (by decide) rfl ?_
                refine r_goto (pc := 151) (tgt := 109) cx dX6_readLine_151 (by decide) ?_
                refine r_loc (loc' := [(0, .ref (q 0)), (1, .ref (g 0)), (2, .int y1), (3, .int x21)]) [2, 3, 4, 0] rfl ?_
                exact ih109 _ _ hf
      refine r_loc (loc' := [(0, .ref (q 0)), (1, .ref (g 0)), (2, .int y1), (3, .int (0 : Int32))]) [1, 2, 3, 0] rfl ?_
      refine hL109 _ (fun v10 hf => ?_) _ _ _ hf
      refine r_aload_n (pc := 154) cx dX6_readLine_154 0 rfl ?_
      refine r_get (pc := 155) cx cf_X6 0 2 rfl (by decide) rfl wd_253 dX6_readLine_155 ?_
      obtain ⟨J23, eJ23, hf⟩ := nm_of hf
      have hJ23 : ∀ (v22 : T_Rd), J23 v22 = some (o_v, o_pr) → WW p l e rm_Rd_readLine s m args below meth c D A 5 0 0 (MQ below (QV D K A (cl_Rd K q o_v ++ (cl_Pg K g o_pr))) args s 0 0 A) ([((q 0), ob 5 [.ref (q 1), .int (Rd_filled v22), .int (Rd_fault v22), .int (Rd_faultPlace v22), .ref (q 2), .ref (q 3), .ref (q 4), .ref (q 5), .int (Rd_limit v22), .int (Rd_position v22), .int (Rd_token v22), .int (Rd_value v22), .int (Rd_place v22), .int (Rd_toldRules v22), .int (Rd_toldData v22)]), ((q 1), aB K 700 (Rd_tape v22)), ((q 2), aI K 25 (Rd_words v22)), ((q 3), aI K 75 (Rd_sorts v22)), ((q 4), aI K 3 (Rd_parts v22)), ((q 5), aI K 64 (Rd_wantedPlaces v22)), ((g 0), ob 3 [.ref (g 1), .ref (g 2), .ref (g 3), .ref (g 4), .ref (g 5), .ref (g 6), .ref (g 7), .ref (g 8), .int (Pg_nameCount pr), .int (Pg_size pr), .int (Pg_lines pr)]), ((g 1), aI K 64 (Pg_code pr)), ((g 2), aI K 64 (Pg_first pr)), ((g 3), aI K 64 (Pg_second pr)), ((g 4), aI K 64 (Pg_third pr)), ((g 5), aI K 8 (Pg_rules pr)), ((g 6), aI K 32 (Pg_data pr)), ((g 7), aI K 140 (Pg_names pr)), ((g 8), aI K 140 (Pg_namedPlaces pr))]) ([(0, .ref (q 0)), (1, .ref (g 0)), (2, .int y1)]) ([]) 182 := by
        intro v22 hf
        rw [eJ23] at hf
        refine r_aload_n (pc := 182) cx dX6_readLine_182 0 rfl ?_
        refine r_get (pc := 183) cx cf_X6 0 2 rfl (by decide) rfl wd_253 dX6_readLine_183 ?_
        refine r_if_ne (pc := 186) (tgt := 205) cx dX6_readLine_186 (by decide) (fun h24 => ?_) (fun h24 => ?_)
        · have hf := ifn h24 hf
          cases hf
          exact r_vret (pc := 205) cx rfl dX6_readLine_205
        · have hf := ifp h24 hf
          refine r_aload_n (pc := 189) cx dX6_readLine_189 1 rfl ?_
          refine r_dup (pc := 190) cx dX6_readLine_190 rfl ?_
          refine r_get (pc := 191) cx cf_X4 6 10 rfl (by decide) rfl wd_160 dX6_readLine_191 ?_
          refine r_iconst (pc := 194) cx dX6_readLine_194 ic_1 ?_
          refine r_iadd (pc := 195) cx dX6_readLine_195 ?_
          obtain ⟨x25, ex25, hf⟩ := nm_of hf
          refine r_nm ex25 ?_
          refine r_putI (pc := 196) (ws' := [((q 0), ob 5 [.ref (q 1), .int (Rd_filled v22), .int (Rd_fault v22), .int (Rd_faultPlace v22), .ref (q 2), .ref (q 3), .ref (q 4), .ref (q 5), .int (Rd_limit v22), .int (Rd_position v22), .int (Rd_token v22), .int (Rd_value v22), .int (Rd_place v22), .int (Rd_toldRules v22), .int (Rd_toldData v22)]), ((q 1), aB K 700 (Rd_tape v22)), ((q 2), aI K 25 (Rd_words v22)), ((q 3), aI K 75 (Rd_sorts v22)), ((q 4), aI K 3 (Rd_parts v22)), ((q 5), aI K 64 (Rd_wantedPlaces v22)), ((g 0), ob 3 [.ref (g 1), .ref (g 2), .ref (g 3), .ref (g 4), .ref (g 5), .ref (g 6), .ref (g 7), .ref (g 8), .int (Pg_nameCount pr), .int (Pg_size pr), .int x25]), ((g 1), aI K 64 (Pg_code pr)), ((g 2), aI K 64 (Pg_first pr)), ((g 3), aI K 64 (Pg_second pr)), ((g 4), aI K 64 (Pg_third pr)), ((g 5), aI K 8 (Pg_rules pr)), ((g 6), aI K 32 (Pg_data pr)), ((g 7), aI K 140 (Pg_names pr)), ((g 8), aI K 140 (Pg_namedPlaces pr))]) cx cf_X4 6 10 rfl (by decide) (Nat.le_of_ble_eq_true rfl) rfl pfd_I wd_160 dX6_readLine_196 rfl ?_
          refine r_aload_n (pc := 199) cx dX6_readLine_199 0 rfl ?_
          refine r_aload_n (pc := 200) cx dX6_readLine_200 1 rfl ?_
          refine r_iload_n (pc := 201) cx dX6_readLine_201 2 rfl ?_
          obtain ⟨v26, v27, hc28, hf⟩ := bd2_of hf
          refine r_Vv (pc := 202) (ws' := [((q 0), ob 5 [.ref (q 1), .int (Rd_filled v26), .int (Rd_fault v26), .int (Rd_faultPlace v26), .ref (q 2), .ref (q 3), .ref (q 4), .ref (q 5), .int (Rd_limit v26), .int (Rd_position v26), .int (Rd_token v26), .int (Rd_value v26), .int (Rd_place v26), .int (Rd_toldRules v26), .int (Rd_toldData v26)]), ((q 1), aB K 700 (Rd_tape v26)), ((q 2), aI K 25 (Rd_words v26)), ((q 3), aI K 75 (Rd_sorts v26)), ((q 4), aI K 3 (Rd_parts v26)), ((q 5), aI K 64 (Rd_wantedPlaces v26)), ((g 0), ob 3 [.ref (g 1), .ref (g 2), .ref (g 3), .ref (g 4), .ref (g 5), .ref (g 6), .ref (g 7), .ref (g 8), .int (Pg_nameCount v27), .int (Pg_size v27), .int (Pg_lines v27)]), ((g 1), aI K 64 (Pg_code v27)), ((g 2), aI K 64 (Pg_first v27)), ((g 3), aI K 64 (Pg_second v27)), ((g 4), aI K 64 (Pg_third v27)), ((g 5), aI K 8 (Pg_rules v27)), ((g 6), aI K 32 (Pg_data v27)), ((g 7), aI K 140 (Pg_names v27)), ((g 8), aI K 140 (Pg_namedPlaces v27))]) cx [.ref (g 0), .int y1] [] [0, 1, 2, 3, 4, 5, 6, 7, 8, 9, 10, 11, 12, 13, 14] (m_Rd_takeLine l D K q v22 g ((Pg_code pr), (Pg_first pr), (Pg_second pr), (Pg_third pr), (Pg_rules pr), (Pg_data pr), (Pg_names pr), (Pg_namedPlaces pr), (Pg_nameCount pr), (Pg_size pr), x25) y1 hc28) yv_X6_takeLine wd_677 ⟨rfl, rfl⟩ (by decide) rfl rfl rfl (by decide) 0 rfl rfl rfl (Nat.le_of_ble_eq_true rfl) dX6_readLine_202 ?_
          cases hf
          exact r_vret (pc := 205) cx rfl dX6_readLine_205
      refine r_if_ne (pc := 158) (tgt := 182) cx dX6_readLine_158 (by decide) (fun h29 => ?_) (fun h29 => ?_)
      · have hf := ifn h29 hf
        exact hJ23 _ hf
      · have hf := ifp h29 hf
        refine r_aload_n (pc := 161) cx dX6_readLine_161 0 rfl ?_
        obtain ⟨v30, hc31, hf⟩ := bd_of hf
        refine r_Vv (pc := 162) (ws' := [((q 0), ob 5 [.ref (q 1), .int (Rd_filled v30), .int (Rd_fault v30), .int (Rd_faultPlace v30), .ref (q 2), .ref (q 3), .ref (q 4), .ref (q 5), .int (Rd_limit v30), .int (Rd_position v30), .int (Rd_token v30), .int (Rd_value v30), .int (Rd_place v30), .int (Rd_toldRules v30), .int (Rd_toldData v30)]), ((q 1), aB K 700 (Rd_tape v30)), ((q 2), aI K 25 (Rd_words v30)), ((q 3), aI K 75 (Rd_sorts v30)), ((q 4), aI K 3 (Rd_parts v30)), ((q 5), aI K 64 (Rd_wantedPlaces v30)), ((g 0), ob 3 [.ref (g 1), .ref (g 2), .ref (g 3), .ref (g 4), .ref (g 5), .ref (g 6), .ref (g 7), .ref (g 8), .int (Pg_nameCount pr), .int (Pg_size pr), .int (Pg_lines pr)]), ((g 1), aI K 64 (Pg_code pr)), ((g 2), aI K 64 (Pg_first pr)), ((g 3), aI K 64 (Pg_second pr)), ((g 4), aI K 64 (Pg_third pr)), ((g 5), aI K 8 (Pg_rules pr)), ((g 6), aI K 32 (Pg_data pr)), ((g 7), aI K 140 (Pg_names pr)), ((g 8), aI K 140 (Pg_namedPlaces pr))]) cx [] [] [0, 1, 2, 3, 4, 5] (m_Rd_advance l D K q v10 hc31) yv_X6_advance wd_621 ⟨rfl, rfl⟩ (by decide) rfl rfl rfl (by decide) 0 rfl rfl rfl (Nat.le_of_ble_eq_true rfl) dX6_readLine_162 ?_
        refine r_aload_n (pc := 165) cx dX6_readLine_165 0 rfl ?_
        refine r_get (pc := 166) cx cf_X6 0 10 rfl (by decide) rfl wd_262 dX6_readLine_166 ?_
        refine r_iconst (pc := 169) cx dX6_readLine_169 ic_3 ?_
        refine r_icmp_eq (pc := 170) (tgt := 182) cx dX6_readLine_170 (by decide) (fun h32 => ?_) (fun h32 => ?_)
        · have hf := ifp h32 hf
          exact hJ23 _ hf
        · have hf := ifn h32 hf
          refine r_aload_n (pc := 173) cx dX6_readLine_173 0 rfl ?_
          refine r_iconst (pc := 174) cx dX6_readLine_174 ic_1 ?_
          refine r_aload_n (pc := 175) cx dX6_readLine_175 0 rfl ?_
          refine r_get (pc := 176) cx cf_X6 0 12 rfl (by decide) rfl wd_264 dX6_readLine_176 ?_
          obtain ⟨v33, hc34, hf⟩ := bd_of hf
          refine r_Vv (pc := 179) (ws' := [((q 0), ob 5 [.ref (q 1), .int (Rd_filled v33), .int (Rd_fault v33), .int (Rd_faultPlace v33), .ref (q 2), .ref (q 3), .ref (q 4), .ref (q 5), .int (Rd_limit v33), .int (Rd_position v33), .int (Rd_token v33), .int (Rd_value v33), .int (Rd_place v33), .int (Rd_toldRules v33), .int (Rd_toldData v33)]), ((q 1), aB K 700 (Rd_tape v33)), ((q 2), aI K 25 (Rd_words v33)), ((q 3), aI K 75 (Rd_sorts v33)), ((q 4), aI K 3 (Rd_parts v33)), ((q 5), aI K 64 (Rd_wantedPlaces v33)), ((g 0), ob 3 [.ref (g 1), .ref (g 2), .ref (g 3), .ref (g 4), .ref (g 5), .ref (g 6), .ref (g 7), .ref (g 8), .int (Pg_nameCount pr), .int (Pg_size pr), .int (Pg_lines pr)]), ((g 1), aI K 64 (Pg_code pr)), ((g 2), aI K 64 (Pg_first pr)), ((g 3), aI K 64 (Pg_second pr)), ((g 4), aI K 64 (Pg_third pr)), ((g 5), aI K 8 (Pg_rules pr)), ((g 6), aI K 32 (Pg_data pr)), ((g 7), aI K 140 (Pg_names pr)), ((g 8), aI K 140 (Pg_namedPlaces pr))]) cx [.int (1 : Int32), .int (Rd_place v30)] [] [0, 1, 2, 3, 4, 5] (m_Rd_fail l D K q v30 (1 : Int32) (Rd_place v30) hc34) yv_X6_fail wd_649 ⟨rfl, rfl⟩ (by decide) rfl rfl rfl (by decide) 0 rfl rfl rfl (Nat.le_of_ble_eq_true rfl) dX6_readLine_179 ?_
          exact hJ23 _ hf
    refine r_icmp_ne (pc := 23) (tgt := 38) cx dX6_readLine_23 (by decide) (fun h35 => ?_) (fun h35 => ?_)
    · have hf := ifn h35 hf
      refine r_iload_n (pc := 38) cx dX6_readLine_38 0 rfl ?_
      refine r_bipush (pc := 39) cx dX6_readLine_39 bp_7 ?_
      refine r_icmp_lt (pc := 41) (tgt := 65) cx dX6_readLine_41 (by decide) (fun h36 => ?_) (fun h36 => ?_)
      · have hf := ifp h36 hf
        refine r_aload_n (pc := 65) cx dX6_readLine_65 1 rfl ?_
        refine r_get (pc := 66) cx cf_X6 0 13 rfl (by decide) rfl wd_265 dX6_readLine_66 ?_
        refine r_iload_n (pc := 69) cx dX6_readLine_69 0 rfl ?_
        refine r_ishr (pc := 70) cx dX6_readLine_70 ?_
        refine r_iconst (pc := 71) cx dX6_readLine_71 ic_1 ?_
        refine r_iand (pc := 72) cx dX6_readLine_72 ?_
        refine r_iconst (pc := 73) cx dX6_readLine_73 ic_1 ?_
        refine r_icmp_ne (pc := 74) (tgt := 86) cx dX6_readLine_74 (by decide) (fun h37 => ?_) (fun h37 => ?_)
        · have hf := ifn h37 hf
          refine r_loc (loc' := [(0, .ref (q 0)), (1, .ref (g 0)), (2, .int y1)]) [1, 2, 0] rfl ?_
          exact hJ4 _ hf
        · have hf := ifp h37 hf
          refine r_aload_n (pc := 77) cx dX6_readLine_77 1 rfl ?_
          refine r_iconst (pc := 78) cx dX6_readLine_78 ic_3 ?_
          refine r_aload_n (pc := 79) cx dX6_readLine_79 1 rfl ?_
          refine r_get (pc := 80) cx cf_X6 0 12 rfl (by decide) rfl wd_264 dX6_readLine_80 ?_
          obtain ⟨v38, hc39, hf⟩ := bd_of hf
          refine r_Vv (pc := 83) (ws' := [((q 0), ob 5 [.ref (q 1), .int (Rd_filled v38), .int (Rd_fault v38), .int (Rd_faultPlace v38), .ref (q 2), .ref (q 3), .ref (q 4), .ref (q 5), .int (Rd_limit v38), .int (Rd_position v38), .int (Rd_token v38), .int (Rd_value v38), .int (Rd_place v38), .int (Rd_toldRules v38), .int (Rd_toldData v38)]), ((q 1), aB K 700 (Rd_tape v38)), ((q 2), aI K 25 (Rd_words v38)), ((q 3), aI K 75 (Rd_sorts v38)), ((q 4), aI K 3 (Rd_parts v38)), ((q 5), aI K 64 (Rd_wantedPlaces v38)), ((g 0), ob 3 [.ref (g 1), .ref (g 2), .ref (g 3), .ref (g 4), .ref (g 5), .ref (g 6), .ref (g 7), .ref (g 8), .int (Pg_nameCount pr), .int (Pg_size pr), .int (Pg_lines pr)]), ((g 1), aI K 64 (Pg_code pr)), ((g 2), aI K 64 (Pg_first pr)), ((g 3), aI K 64 (Pg_second pr)), ((g 4), aI K 64 (Pg_third pr)), ((g 5), aI K 8 (Pg_rules pr)), ((g 6), aI K 32 (Pg_data pr)), ((g 7), aI K 140 (Pg_names pr)), ((g 8), aI K 140 (Pg_namedPlaces pr))]) cx [.int (3 : Int32), .int (Rd_place v)] [] [0, 1, 2, 3, 4, 5] (m_Rd_fail l D K q v (3 : Int32) (Rd_place v) hc39) yv_X6_fail wd_649 ⟨rfl, rfl⟩ (by decide) rfl rfl rfl (by decide) 0 rfl rfl rfl (Nat.le_of_ble_eq_true rfl) dX6_readLine_83 ?_
          refine r_loc (loc' := [(0, .ref (q 0)), (1, .ref (g 0)), (2, .int y1)]) [1, 2, 0] rfl ?_
          exact hJ4 _ hf
      · have hf := ifn h36 hf
        refine r_aload_n (pc := 44) cx dX6_readLine_44 2 rfl ?_
        refine r_get (pc := 45) cx cf_X4 6 9 rfl (by decide) rfl wd_156 dX6_readLine_45 ?_
        refine r_bipush (pc := 48) cx dX6_readLine_48 bp_40 ?_
        refine r_icmp_lt (pc := 50) (tgt := 65) cx dX6_readLine_50 (by decide) (fun h40 => ?_) (fun h40 => ?_)
        · have hf := ifp h40 hf
          refine r_aload_n (pc := 65) cx dX6_readLine_65 1 rfl ?_
          refine r_get (pc := 66) cx cf_X6 0 13 rfl (by decide) rfl wd_265 dX6_readLine_66 ?_
          refine r_iload_n (pc := 69) cx dX6_readLine_69 0 rfl ?_
          refine r_ishr (pc := 70) cx dX6_readLine_70 ?_
          refine r_iconst (pc := 71) cx dX6_readLine_71 ic_1 ?_
          refine r_iand (pc := 72) cx dX6_readLine_72 ?_
          refine r_iconst (pc := 73) cx dX6_readLine_73 ic_1 ?_
          refine r_icmp_ne (pc := 74) (tgt := 86) cx dX6_readLine_74 (by decide) (fun h41 => ?_) (fun h41 => ?_)
          · have hf := ifn h41 hf
            refine r_loc (loc' := [(0, .ref (q 0)), (1, .ref (g 0)), (2, .int y1)]) [1, 2, 0] rfl ?_
            exact hJ4 _ hf
          · have hf := ifp h41 hf
            refine r_aload_n (pc := 77) cx dX6_readLine_77 1 rfl ?_
            refine r_iconst (pc := 78) cx dX6_readLine_78 ic_3 ?_
            refine r_aload_n (pc := 79) cx dX6_readLine_79 1 rfl ?_
            refine r_get (pc := 80) cx cf_X6 0 12 rfl (by decide) rfl wd_264 dX6_readLine_80 ?_
            obtain ⟨v42, hc43, hf⟩ := bd_of hf
            refine r_Vv (pc := 83) (ws' := [((q 0), ob 5 [.ref (q 1), .int (Rd_filled v42), .int (Rd_fault v42), .int (Rd_faultPlace v42), .ref (q 2), .ref (q 3), .ref (q 4), .ref (q 5), .int (Rd_limit v42), .int (Rd_position v42), .int (Rd_token v42), .int (Rd_value v42), .int (Rd_place v42), .int (Rd_toldRules v42), .int (Rd_toldData v42)]), ((q 1), aB K 700 (Rd_tape v42)), ((q 2), aI K 25 (Rd_words v42)), ((q 3), aI K 75 (Rd_sorts v42)), ((q 4), aI K 3 (Rd_parts v42)), ((q 5), aI K 64 (Rd_wantedPlaces v42)), ((g 0), ob 3 [.ref (g 1), .ref (g 2), .ref (g 3), .ref (g 4), .ref (g 5), .ref (g 6), .ref (g 7), .ref (g 8), .int (Pg_nameCount pr), .int (Pg_size pr), .int (Pg_lines pr)]), ((g 1), aI K 64 (Pg_code pr)), ((g 2), aI K 64 (Pg_first pr)), ((g 3), aI K 64 (Pg_second pr)), ((g 4), aI K 64 (Pg_third pr)), ((g 5), aI K 8 (Pg_rules pr)), ((g 6), aI K 32 (Pg_data pr)), ((g 7), aI K 140 (Pg_names pr)), ((g 8), aI K 140 (Pg_namedPlaces pr))]) cx [.int (3 : Int32), .int (Rd_place v)] [] [0, 1, 2, 3, 4, 5] (m_Rd_fail l D K q v (3 : Int32) (Rd_place v) hc43) yv_X6_fail wd_649 ⟨rfl, rfl⟩ (by decide) rfl rfl rfl (by decide) 0 rfl rfl rfl (Nat.le_of_ble_eq_true rfl) dX6_readLine_83 ?_
            refine r_loc (loc' := [(0, .ref (q 0)), (1, .ref (g 0)), (2, .int y1)]) [1, 2, 0] rfl ?_
            exact hJ4 _ hf
        · have hf := ifn h40 hf
          refine r_aload_n (pc := 53) cx dX6_readLine_53 1 rfl ?_
          refine r_iconst (pc := 54) cx dX6_readLine_54 ic_2 ?_
          refine r_aload_n (pc := 55) cx dX6_readLine_55 1 rfl ?_
          refine r_get (pc := 56) cx cf_X6 0 12 rfl (by decide) rfl wd_264 dX6_readLine_56 ?_
          obtain ⟨v44, hc45, hf⟩ := bd_of hf
          refine r_Vv (pc := 59) (ws' := [((q 0), ob 5 [.ref (q 1), .int (Rd_filled v44), .int (Rd_fault v44), .int (Rd_faultPlace v44), .ref (q 2), .ref (q 3), .ref (q 4), .ref (q 5), .int (Rd_limit v44), .int (Rd_position v44), .int (Rd_token v44), .int (Rd_value v44), .int (Rd_place v44), .int (Rd_toldRules v44), .int (Rd_toldData v44)]), ((q 1), aB K 700 (Rd_tape v44)), ((q 2), aI K 25 (Rd_words v44)), ((q 3), aI K 75 (Rd_sorts v44)), ((q 4), aI K 3 (Rd_parts v44)), ((q 5), aI K 64 (Rd_wantedPlaces v44)), ((g 0), ob 3 [.ref (g 1), .ref (g 2), .ref (g 3), .ref (g 4), .ref (g 5), .ref (g 6), .ref (g 7), .ref (g 8), .int (Pg_nameCount pr), .int (Pg_size pr), .int (Pg_lines pr)]), ((g 1), aI K 64 (Pg_code pr)), ((g 2), aI K 64 (Pg_first pr)), ((g 3), aI K 64 (Pg_second pr)), ((g 4), aI K 64 (Pg_third pr)), ((g 5), aI K 8 (Pg_rules pr)), ((g 6), aI K 32 (Pg_data pr)), ((g 7), aI K 140 (Pg_names pr)), ((g 8), aI K 140 (Pg_namedPlaces pr))]) cx [.int (2 : Int32), .int (Rd_place v)] [] [0, 1, 2, 3, 4, 5] (m_Rd_fail l D K q v (2 : Int32) (Rd_place v) hc45) yv_X6_fail wd_649 ⟨rfl, rfl⟩ (by decide) rfl rfl rfl (by decide) 0 rfl rfl rfl (Nat.le_of_ble_eq_true rfl) dX6_readLine_59 ?_
          refine r_goto (pc := 62) (tgt := 86) cx dX6_readLine_62 (by decide) ?_
          refine r_loc (loc' := [(0, .ref (q 0)), (1, .ref (g 0)), (2, .int y1)]) [1, 2, 0] rfl ?_
          exact hJ4 _ hf
    · have hf := ifp h35 hf
      refine r_aload_n (pc := 26) cx dX6_readLine_26 1 rfl ?_
      refine r_iconst (pc := 27) cx dX6_readLine_27 ic_1 ?_
      refine r_aload_n (pc := 28) cx dX6_readLine_28 1 rfl ?_
      refine r_get (pc := 29) cx cf_X6 0 12 rfl (by decide) rfl wd_264 dX6_readLine_29 ?_
      obtain ⟨v46, hc47, hf⟩ := bd_of hf
      refine r_Vv (pc := 32) (ws' := [((q 0), ob 5 [.ref (q 1), .int (Rd_filled v46), .int (Rd_fault v46), .int (Rd_faultPlace v46), .ref (q 2), .ref (q 3), .ref (q 4), .ref (q 5), .int (Rd_limit v46), .int (Rd_position v46), .int (Rd_token v46), .int (Rd_value v46), .int (Rd_place v46), .int (Rd_toldRules v46), .int (Rd_toldData v46)]), ((q 1), aB K 700 (Rd_tape v46)), ((q 2), aI K 25 (Rd_words v46)), ((q 3), aI K 75 (Rd_sorts v46)), ((q 4), aI K 3 (Rd_parts v46)), ((q 5), aI K 64 (Rd_wantedPlaces v46)), ((g 0), ob 3 [.ref (g 1), .ref (g 2), .ref (g 3), .ref (g 4), .ref (g 5), .ref (g 6), .ref (g 7), .ref (g 8), .int (Pg_nameCount pr), .int (Pg_size pr), .int (Pg_lines pr)]), ((g 1), aI K 64 (Pg_code pr)), ((g 2), aI K 64 (Pg_first pr)), ((g 3), aI K 64 (Pg_second pr)), ((g 4), aI K 64 (Pg_third pr)), ((g 5), aI K 8 (Pg_rules pr)), ((g 6), aI K 32 (Pg_data pr)), ((g 7), aI K 140 (Pg_names pr)), ((g 8), aI K 140 (Pg_namedPlaces pr))]) cx [.int (1 : Int32), .int (Rd_place v)] [] [0, 1, 2, 3, 4, 5] (m_Rd_fail l D K q v (1 : Int32) (Rd_place v) hc47) yv_X6_fail wd_649 ⟨rfl, rfl⟩ (by decide) rfl rfl rfl (by decide) 0 rfl rfl rfl (Nat.le_of_ble_eq_true rfl) dX6_readLine_32 ?_
      refine r_goto (pc := 35) (tgt := 86) cx dX6_readLine_35 (by decide) ?_
      refine r_loc (loc' := [(0, .ref (q 0)), (1, .ref (g 0)), (2, .int y1)]) [1, 2, 0] rfl ?_
      exact hJ4 _ hf
  refine r_icmp_ne (pc := 5) (tgt := 19) cx dX6_readLine_5 (by decide) (fun h48 => ?_) (fun h48 => ?_)
  · have hf := ifn h48 hf
    refine r_iconst (pc := 19) cx dX6_readLine_19 ic_m1 ?_
    exact hJ2 _ hf
  · have hf := ifp h48 hf
    refine r_aload_n (pc := 8) cx dX6_readLine_8 0 rfl ?_
    refine r_aload_n (pc := 9) cx dX6_readLine_9 0 rfl ?_
    refine r_get (pc := 10) cx cf_X6 0 11 rfl (by decide) rfl wd_263 dX6_readLine_10 ?_
    obtain ⟨r49, hc50, hf⟩ := bd_of hf
    refine r_Vi (pc := 13) (ws' := [((q 0), ob 5 [.ref (q 1), .int (Rd_filled v), .int (Rd_fault v), .int (Rd_faultPlace v), .ref (q 2), .ref (q 3), .ref (q 4), .ref (q 5), .int (Rd_limit v), .int (Rd_position v), .int (Rd_token v), .int (Rd_value v), .int (Rd_place v), .int (Rd_toldRules v), .int (Rd_toldData v)]), ((q 1), aB K 700 (Rd_tape v)), ((q 2), aI K 25 (Rd_words v)), ((q 3), aI K 75 (Rd_sorts v)), ((q 4), aI K 3 (Rd_parts v)), ((q 5), aI K 64 (Rd_wantedPlaces v)), ((g 0), ob 3 [.ref (g 1), .ref (g 2), .ref (g 3), .ref (g 4), .ref (g 5), .ref (g 6), .ref (g 7), .ref (g 8), .int (Pg_nameCount pr), .int (Pg_size pr), .int (Pg_lines pr)]), ((g 1), aI K 64 (Pg_code pr)), ((g 2), aI K 64 (Pg_first pr)), ((g 3), aI K 64 (Pg_second pr)), ((g 4), aI K 64 (Pg_third pr)), ((g 5), aI K 8 (Pg_rules pr)), ((g 6), aI K 32 (Pg_data pr)), ((g 7), aI K 140 (Pg_names pr)), ((g 8), aI K 140 (Pg_namedPlaces pr))]) cx [.int (Rd_value v)] [] [0, 1, 2, 3, 4, 5] (m_Rd_wordNumber l D K q v (Rd_value v) hc50) yv_X6_wordNumber wd_645 ⟨rfl, rfl⟩ (by decide) rfl rfl rfl (by decide) 0 rfl rfl rfl (Nat.le_of_ble_eq_true rfl) dX6_readLine_13 ?_
    refine r_goto (pc := 16) (tgt := 20) cx dX6_readLine_16 (by decide) ?_
    exact hJ2 _ hf
theorem yv_X6_readLine : YV yX6_readLine cX6_readLine 5 (none) 1 := ⟨⟨by decide +kernel, by decide +kernel, by decide +kernel⟩, wd_644, wd_90, wd_643, wd_5⟩
def f_Rd_findNames_L2 (pr : T_Pg) (k2_74 : (Nat → Int32) → T_Rd → Option (T_Rd × T_Pg)) : Nat → Int32 → (Nat → Int32) → T_Rd → Option (T_Rd × T_Pg)
  | 0, _, _, _ => none
  | n2 + 1, x1, f2, v3 =>
    (if (Pg_size pr) ≤ x1 then (k2_74 f2 v3) else (if (40 : Int32) ≤ x1 then (k2_74 f2 v3) else (if (Rd_fault v3) = (0 : Int32) then (if ix x1 64 then (if ((Pg_code pr) x1.toNatClampNeg) < (14 : Int32) then (nm (x1 + (1 : Int32)) fun (x11 : Int32) => (f_Rd_findNames_L2 pr k2_74 n2 x11 f2 v3)) else (if ix x1 64 then (bd (f_Pg_placeOf ((Pg_code pr), (Pg_first pr), (Pg_second pr), f2, (Pg_rules pr), (Pg_data pr), (Pg_names pr), (Pg_namedPlaces pr), (Pg_nameCount pr), (Pg_size pr), (Pg_lines pr)) (f2 x1.toNatClampNeg)) fun (r13 : Int32) => (if r13 = (-1 : Int32) then (if ix x1 64 then (bd (f_Rd_fail v3 (4 : Int32) ((Rd_wantedPlaces v3) x1.toNatClampNeg)) fun (v20 : T_Rd) => (if ix x1 64 then (nm (upd f2 x1.toNatClampNeg r13) fun (f23 : Nat → Int32) => (nm (x1 + (1 : Int32)) fun (x24 : Int32) => (f_Rd_findNames_L2 pr k2_74 n2 x24 f23 v20))) else none)) else none) else (if ix x1 64 then (nm (upd f2 x1.toNatClampNeg r13) fun (f17 : Nat → Int32) => (nm (x1 + (1 : Int32)) fun (x18 : Int32) => (f_Rd_findNames_L2 pr k2_74 n2 x18 f17 v3))) else none))) else none)) else none) else (k2_74 f2 v3))))
def f_Rd_findNames (v : T_Rd) (pr : T_Pg) : Option (T_Rd × T_Pg) :=
  (f_Rd_findNames_L2 pr (fun (f4 : (Nat → Int32)) (v5 : T_Rd) => (some (v5, ((Pg_code pr), (Pg_first pr), (Pg_second pr), f4, (Pg_rules pr), (Pg_data pr), (Pg_names pr), (Pg_namedPlaces pr), (Pg_nameCount pr), (Pg_size pr), (Pg_lines pr))))) LF (0 : Int32) (Pg_third pr) v)
abbrev rm_Rd_findNames : Room := { frames := 1, cells := 0, slots := 0, locals := 22 }
set_option maxRecDepth 100000 in
set_option maxHeartbeats 4000000 in
theorem m_Rd_findNames (l : Launch) (D : va_G) (K : Nat → ClassId) (q : Nat → Nat) (v : T_Rd) (g : Nat → Nat) (pr : T_Pg) {o_v : T_Rd} {o_pr : T_Pg} (hf : f_Rd_findNames v pr = some (o_v, o_pr)) : MV l yX6_findNames cX6_findNames 4 (none) rm_Rd_findNames D K [.ref (q 0), .ref (g 0)] (cl_Rd K q v ++ (cl_Pg K g pr)) (cl_Rd K q o_v ++ (cl_Pg K g o_pr)) := by
  refine MV_of (loc0 := [(0, .ref (q 0)), (1, .ref (g 0))]) (by decide +kernel) rfl (Nat.le_of_ble_eq_true rfl) ?_
  intro p e s m args below meth c A cx
  unfold f_Rd_findNames at hf
  refine r_ws (ws' := [((q 0), ob 5 [.ref (q 1), .int (Rd_filled v), .int (Rd_fault v), .int (Rd_faultPlace v), .ref (q 2), .ref (q 3), .ref (q 4), .ref (q 5), .int (Rd_limit v), .int (Rd_position v), .int (Rd_token v), .int (Rd_value v), .int (Rd_place v), .int (Rd_toldRules v), .int (Rd_toldData v)]), ((q 1), aB K 700 (Rd_tape v)), ((q 2), aI K 25 (Rd_words v)), ((q 3), aI K 75 (Rd_sorts v)), ((q 4), aI K 3 (Rd_parts v)), ((q 5), aI K 64 (Rd_wantedPlaces v)), ((g 0), ob 3 [.ref (g 1), .ref (g 2), .ref (g 3), .ref (g 4), .ref (g 5), .ref (g 6), .ref (g 7), .ref (g 8), .int (Pg_nameCount pr), .int (Pg_size pr), .int (Pg_lines pr)]), ((g 1), aI K 64 (Pg_code pr)), ((g 2), aI K 64 (Pg_first pr)), ((g 3), aI K 64 (Pg_second pr)), ((g 4), aI K 64 (Pg_third pr)), ((g 5), aI K 8 (Pg_rules pr)), ((g 6), aI K 32 (Pg_data pr)), ((g 7), aI K 140 (Pg_names pr)), ((g 8), aI K 140 (Pg_namedPlaces pr))]) rfl ?_
  refine r_iconst (pc := 0) cx dX6_findNames_0 ic_0 ?_
  refine r_istore_n (pc := 1) (loc' := [(2, .int (0 : Int32)), (0, .ref (q 0)), (1, .ref (g 0))]) cx dX6_findNames_1 rfl (by decide) rfl ?_
  have hL2 : ∀ (k2_74 : (Nat → Int32) → T_Rd → Option (T_Rd × T_Pg)), (∀ (f4 : (Nat → Int32)) (v5 : T_Rd), k2_74 f4 v5 = some (o_v, o_pr) → WW p l e rm_Rd_findNames s m args below meth c D A 4 0 0 (MQ below (QV D K A (cl_Rd K q o_v ++ (cl_Pg K g o_pr))) args s 0 0 A) ([((q 0), ob 5 [.ref (q 1), .int (Rd_filled v5), .int (Rd_fault v5), .int (Rd_faultPlace v5), .ref (q 2), .ref (q 3), .ref (q 4), .ref (q 5), .int (Rd_limit v5), .int (Rd_position v5), .int (Rd_token v5), .int (Rd_value v5), .int (Rd_place v5), .int (Rd_toldRules v5), .int (Rd_toldData v5)]), ((q 1), aB K 700 (Rd_tape v5)), ((q 2), aI K 25 (Rd_words v5)), ((q 3), aI K 75 (Rd_sorts v5)), ((q 4), aI K 3 (Rd_parts v5)), ((q 5), aI K 64 (Rd_wantedPlaces v5)), ((g 0), ob 3 [.ref (g 1), .ref (g 2), .ref (g 3), .ref (g 4), .ref (g 5), .ref (g 6), .ref (g 7), .ref (g 8), .int (Pg_nameCount pr), .int (Pg_size pr), .int (Pg_lines pr)]), ((g 1), aI K 64 (Pg_code pr)), ((g 2), aI K 64 (Pg_first pr)), ((g 3), aI K 64 (Pg_second pr)), ((g 4), aI K 64 f4), ((g 5), aI K 8 (Pg_rules pr)), ((g 6), aI K 32 (Pg_data pr)), ((g 7), aI K 140 (Pg_names pr)), ((g 8), aI K 140 (Pg_namedPlaces pr))]) ([]) ([]) 74) → ∀ (n2 : Nat) (x1 : Int32) (f2 : (Nat → Int32)) (v3 : T_Rd), f_Rd_findNames_L2 pr k2_74 n2 x1 f2 v3 = some (o_v, o_pr) → WW p l e rm_Rd_findNames s m args below meth c D A 4 0 0 (MQ below (QV D K A (cl_Rd K q o_v ++ (cl_Pg K g o_pr))) args s 0 0 A) ([((q 0), ob 5 [.ref (q 1), .int (Rd_filled v3), .int (Rd_fault v3), .int (Rd_faultPlace v3), .ref (q 2), .ref (q 3), .ref (q 4), .ref (q 5), .int (Rd_limit v3), .int (Rd_position v3), .int (Rd_token v3), .int (Rd_value v3), .int (Rd_place v3), .int (Rd_toldRules v3), .int (Rd_toldData v3)]), ((q 1), aB K 700 (Rd_tape v3)), ((q 2), aI K 25 (Rd_words v3)), ((q 3), aI K 75 (Rd_sorts v3)), ((q 4), aI K 3 (Rd_parts v3)), ((q 5), aI K 64 (Rd_wantedPlaces v3)), ((g 0), ob 3 [.ref (g 1), .ref (g 2), .ref (g 3), .ref (g 4), .ref (g 5), .ref (g 6), .ref (g 7), .ref (g 8), .int (Pg_nameCount pr), .int (Pg_size pr), .int (Pg_lines pr)]), ((g 1), aI K 64 (Pg_code pr)), ((g 2), aI K 64 (Pg_first pr)), ((g 3), aI K 64 (Pg_second pr)), ((g 4), aI K 64 f2), ((g 5), aI K 8 (Pg_rules pr)), ((g 6), aI K 32 (Pg_data pr)), ((g 7), aI K 140 (Pg_names pr)), ((g 8), aI K 140 (Pg_namedPlaces pr))]) ([(0, .ref (q 0)), (1, .ref (g 0)), (2, .int x1)]) ([]) 2 := by
    intro k2_74 hk2_74 n2
    induction n2 with
    | zero => intro x1 f2 v3 hf; exact (nomatch (show (none : Option (T_Rd × T_Pg)) = some _ from hf))
    | succ n2 ih2 =>
      intro x1 f2 v3 hf
      rw [f_Rd_findNames_L2] at hf
      refine r_iload_n (pc := 2) cx dX6_findNames_2 2 rfl ?_
      refine r_aload_n (pc := 3) cx dX6_findNames_3 1 rfl ?_
      refine r_get (pc := 4) cx cf_X4 6 9 rfl (by decide) rfl wd_156 dX6_findNames_4 ?_
      refine r_icmp_ge (pc := 7) (tgt := 74) cx dX6_findNames_7 (by decide) (fun h6 => ?_) (fun h6 => ?_)
      · have hf := ifp h6 hf
        refine r_loc (loc' := []) [] rfl ?_
        exact hk2_74 _ _ hf
      · have hf := ifn h6 hf
        refine r_iload_n (pc := 10) cx dX6_findNames_10 2 rfl ?_
        refine r_bipush (pc := 11) cx dX6_findNames_11 bp_40 ?_
        refine r_icmp_ge (pc := 13) (tgt := 74) cx dX6_findNames_13 (by decide) (fun h7 => ?_) (fun h7 => ?_)
        · have hf := ifp h7 hf
          refine r_loc (loc' := []) [] rfl ?_
          exact hk2_74 _ _ hf
        · have hf := ifn h7 hf
          refine r_aload_n (pc := 16) cx dX6_findNames_16 0 rfl ?_
          refine r_get (pc := 17) cx cf_X6 0 2 rfl (by decide) rfl wd_253 dX6_findNames_17 ?_
          refine r_if_ne (pc := 20) (tgt := 74) cx dX6_findNames_20 (by decide) (fun h8 => ?_) (fun h8 => ?_)
          · have hf := ifn h8 hf
            refine r_loc (loc' := []) [] rfl ?_
            exact hk2_74 _ _ hf
          · have hf := ifp h8 hf
            refine r_aload_n (pc := 23) cx dX6_findNames_23 1 rfl ?_
            refine r_get (pc := 24) cx cf_X4 6 0 rfl (by decide) rfl wd_134 dX6_findNames_24 ?_
            refine r_iload_n (pc := 27) cx dX6_findNames_27 2 rfl ?_
            obtain ⟨h9, hf⟩ := chk_of hf
            refine r_iald (pc := 28) cx 7 rfl h9 dX6_findNames_28 ?_
            refine r_bipush (pc := 29) cx dX6_findNames_29 bp_14 ?_
            refine r_icmp_lt (pc := 31) (tgt := 68) cx dX6_findNames_31 (by decide) (fun h10 => ?_) (fun h10 => ?_)
            · have hf := ifp h10 hf
              obtain ⟨x11, ex11, hf⟩ := nm_of hf
              refine r_iinc (pc := 68) (loc' := [(2, .int x11), (0, .ref (q 0)), (1, .ref (g 0))]) (v := x11) cx dX6_findNames_68 2 rfl ((congrArg (fun z => x1 + z) ic_1).trans ex11.symm) (by decide) rfl ?_
              refine r_goto (pc := 71) (tgt := 2) cx dX6_findNames_71 (by decide) ?_
              refine r_loc (loc' := [(0, .ref (q 0)), (1, .ref (g 0)), (2, .int x11)]) [1, 2, 0] rfl ?_
              exact ih2 _ _ _ hf
            · have hf := ifn h10 hf
              refine r_aload_n (pc := 34) cx dX6_findNames_34 1 rfl ?_
              refine r_aload_n (pc := 35) cx dX6_findNames_35 1 rfl ?_
              refine r_get (pc := 36) cx cf_X4 6 3 rfl (by decide) rfl wd_142 dX6_findNames_36 ?_
              refine r_iload_n (pc := 39) cx dX6_findNames_39 2 rfl ?_
              obtain ⟨h12, hf⟩ := chk_of hf
              refine r_iald (pc := 40) cx 10 rfl h12 dX6_findNames_40 ?_
              obtain ⟨r13, hc14, hf⟩ := bd_of hf
              refine r_Vi (pc := 41) (ws' := [((q 0), ob 5 [.ref (q 1), .int (Rd_filled v3), .int (Rd_fault v3), .int (Rd_faultPlace v3), .ref (q 2), .ref (q 3), .ref (q 4), .ref (q 5), .int (Rd_limit v3), .int (Rd_position v3), .int (Rd_token v3), .int (Rd_value v3), .int (Rd_place v3), .int (Rd_toldRules v3), .int (Rd_toldData v3)]), ((q 1), aB K 700 (Rd_tape v3)), ((q 2), aI K 25 (Rd_words v3)), ((q 3), aI K 75 (Rd_sorts v3)), ((q 4), aI K 3 (Rd_parts v3)), ((q 5), aI K 64 (Rd_wantedPlaces v3)), ((g 0), ob 3 [.ref (g 1), .ref (g 2), .ref (g 3), .ref (g 4), .ref (g 5), .ref (g 6), .ref (g 7), .ref (g 8), .int (Pg_nameCount pr), .int (Pg_size pr), .int (Pg_lines pr)]), ((g 1), aI K 64 (Pg_code pr)), ((g 2), aI K 64 (Pg_first pr)), ((g 3), aI K 64 (Pg_second pr)), ((g 4), aI K 64 f2), ((g 5), aI K 8 (Pg_rules pr)), ((g 6), aI K 32 (Pg_data pr)), ((g 7), aI K 140 (Pg_names pr)), ((g 8), aI K 140 (Pg_namedPlaces pr))]) cx [.int (f2 x1.toNatClampNeg)] [] [6, 7, 8, 9, 10, 11, 12, 13, 14] (m_Pg_placeOf l D K g ((Pg_code pr), (Pg_first pr), (Pg_second pr), f2, (Pg_rules pr), (Pg_data pr), (Pg_names pr), (Pg_namedPlaces pr), (Pg_nameCount pr), (Pg_size pr), (Pg_lines pr)) (f2 x1.toNatClampNeg) hc14) yv_X4_placeOf wd_665 ⟨rfl, rfl⟩ (by decide) rfl rfl rfl (by decide) 6 rfl rfl rfl (Nat.le_of_ble_eq_true rfl) dX6_findNames_41 ?_
              refine r_istore_n (pc := 44) (loc' := [(3, .int r13), (0, .ref (q 0)), (1, .ref (g 0)), (2, .int x1)]) cx dX6_findNames_44 rfl (by decide) rfl ?_
              refine r_iload_n (pc := 45) cx dX6_findNames_45 0 rfl ?_
              refine r_iconst (pc := 46) cx dX6_findNames_46 ic_m1 ?_
              refine r_icmp_ne (pc := 47) (tgt := 61) cx dX6_findNames_47 (by decide) (fun h15 => ?_) (fun h15 => ?_)
              · have hf := ifn h15 hf
                refine r_aload_n (pc := 61) cx dX6_findNames_61 2 rfl ?_
                refine r_get (pc := 62) cx cf_X4 6 3 rfl (by decide) rfl wd_142 dX6_findNames_62 ?_
                refine r_iload_n (pc := 65) cx dX6_findNames_65 3 rfl ?_
                refine r_iload_n (pc := 66) cx dX6_findNames_66 0 rfl ?_
                obtain ⟨h16, hf⟩ := chk_of hf
                obtain ⟨f17, ef17, hf⟩ := nm_of hf
                refine r_iast (pc := 67) (ws' := [((q 0), ob 5 [.ref (q 1), .int (Rd_filled v3), .int (Rd_fault v3), .int (Rd_faultPlace v3), .ref (q 2), .ref (q 3), .ref (q 4), .ref (q 5), .int (Rd_limit v3), .int (Rd_position v3), .int (Rd_token v3), .int (Rd_value v3), .int (Rd_place v3), .int (Rd_toldRules v3), .int (Rd_toldData v3)]), ((q 1), aB K 700 (Rd_tape v3)), ((q 2), aI K 25 (Rd_words v3)), ((q 3), aI K 75 (Rd_sorts v3)), ((q 4), aI K 3 (Rd_parts v3)), ((q 5), aI K 64 (Rd_wantedPlaces v3)), ((g 0), ob 3 [.ref (g 1), .ref (g 2), .ref (g 3), .ref (g 4), .ref (g 5), .ref (g 6), .ref (g 7), .ref (g 8), .int (Pg_nameCount pr), .int (Pg_size pr), .int (Pg_lines pr)]), ((g 1), aI K 64 (Pg_code pr)), ((g 2), aI K 64 (Pg_first pr)), ((g 3), aI K 64 (Pg_second pr)), ((g 4), aI K 64 f17), ((g 5), aI K 8 (Pg_rules pr)), ((g 6), aI K 32 (Pg_data pr)), ((g 7), aI K 140 (Pg_names pr)), ((g 8), aI K 140 (Pg_namedPlaces pr))]) cx 10 rfl h16 dX6_findNames_67 ef17 rfl ?_
                obtain ⟨x18, ex18, hf⟩ := nm_of hf
                refine r_iinc (pc := 68) (loc' := [(2, .int x18), (3, .int r13), (0, .ref (q 0)), (1, .ref (g 0))]) (v := x18) cx dX6_findNames_68 3 rfl ((congrArg (fun z => x1 + z) ic_1).trans ex18.symm) (by decide) rfl ?_
                refine r_goto (pc := 71) (tgt := 2) cx dX6_findNames_71 (by decide) ?_
                refine r_loc (loc' := [(0, .ref (q 0)), (1, .ref (g 0)), (2, .int x18)]) [2, 3, 0] rfl ?_
                exact ih2 _ _ _ hf
              · have hf := ifp h15 hf
                refine r_aload_n (pc := 50) cx dX6_findNames_50 1 rfl ?_
                refine r_iconst (pc := 51) cx dX6_findNames_51 ic_4 ?_
                refine r_aload_n (pc := 52) cx dX6_findNames_52 1 rfl ?_
                refine r_get (pc := 53) cx cf_X6 0 7 rfl (by decide) rfl wd_259 dX6_findNames_53 ?_
                refine r_iload_n (pc := 56) cx dX6_findNames_56 3 rfl ?_
                obtain ⟨h19, hf⟩ := chk_of hf
                refine r_iald (pc := 57) cx 5 rfl h19 dX6_findNames_57 ?_
                obtain ⟨v20, hc21, hf⟩ := bd_of hf
                refine r_Vv (pc := 58) (ws' := [((q 0), ob 5 [.ref (q 1), .int (Rd_filled v20), .int (Rd_fault v20), .int (Rd_faultPlace v20), .ref (q 2), .ref (q 3), .ref (q 4), .ref (q 5), .int (Rd_limit v20), .int (Rd_position v20), .int (Rd_token v20), .int (Rd_value v20), .int (Rd_place v20), .int (Rd_toldRules v20), .int (Rd_toldData v20)]), ((q 1), aB K 700 (Rd_tape v20)), ((q 2), aI K 25 (Rd_words v20)), ((q 3), aI K 75 (Rd_sorts v20)), ((q 4), aI K 3 (Rd_parts v20)), ((q 5), aI K 64 (Rd_wantedPlaces v20)), ((g 0), ob 3 [.ref (g 1), .ref (g 2), .ref (g 3), .ref (g 4), .ref (g 5), .ref (g 6), .ref (g 7), .ref (g 8), .int (Pg_nameCount pr), .int (Pg_size pr), .int (Pg_lines pr)]), ((g 1), aI K 64 (Pg_code pr)), ((g 2), aI K 64 (Pg_first pr)), ((g 3), aI K 64 (Pg_second pr)), ((g 4), aI K 64 f2), ((g 5), aI K 8 (Pg_rules pr)), ((g 6), aI K 32 (Pg_data pr)), ((g 7), aI K 140 (Pg_names pr)), ((g 8), aI K 140 (Pg_namedPlaces pr))]) cx [.int (4 : Int32), .int ((Rd_wantedPlaces v3) x1.toNatClampNeg)] [] [0, 1, 2, 3, 4, 5] (m_Rd_fail l D K q v3 (4 : Int32) ((Rd_wantedPlaces v3) x1.toNatClampNeg) hc21) yv_X6_fail wd_649 ⟨rfl, rfl⟩ (by decide) rfl rfl rfl (by decide) 0 rfl rfl rfl (Nat.le_of_ble_eq_true rfl) dX6_findNames_58 ?_
                refine r_aload_n (pc := 61) cx dX6_findNames_61 2 rfl ?_
                refine r_get (pc := 62) cx cf_X4 6 3 rfl (by decide) rfl wd_142 dX6_findNames_62 ?_
                refine r_iload_n (pc := 65) cx dX6_findNames_65 3 rfl ?_
                refine r_iload_n (pc := 66) cx dX6_findNames_66 0 rfl ?_
                obtain ⟨h22, hf⟩ := chk_of hf
                obtain ⟨f23, ef23, hf⟩ := nm_of hf
                refine r_iast (pc := 67) (ws' := [((q 0), ob 5 [.ref (q 1), .int (Rd_filled v20), .int (Rd_fault v20), .int (Rd_faultPlace v20), .ref (q 2), .ref (q 3), .ref (q 4), .ref (q 5), .int (Rd_limit v20), .int (Rd_position v20), .int (Rd_token v20), .int (Rd_value v20), .int (Rd_place v20), .int (Rd_toldRules v20), .int (Rd_toldData v20)]), ((q 1), aB K 700 (Rd_tape v20)), ((q 2), aI K 25 (Rd_words v20)), ((q 3), aI K 75 (Rd_sorts v20)), ((q 4), aI K 3 (Rd_parts v20)), ((q 5), aI K 64 (Rd_wantedPlaces v20)), ((g 0), ob 3 [.ref (g 1), .ref (g 2), .ref (g 3), .ref (g 4), .ref (g 5), .ref (g 6), .ref (g 7), .ref (g 8), .int (Pg_nameCount pr), .int (Pg_size pr), .int (Pg_lines pr)]), ((g 1), aI K 64 (Pg_code pr)), ((g 2), aI K 64 (Pg_first pr)), ((g 3), aI K 64 (Pg_second pr)), ((g 4), aI K 64 f23), ((g 5), aI K 8 (Pg_rules pr)), ((g 6), aI K 32 (Pg_data pr)), ((g 7), aI K 140 (Pg_names pr)), ((g 8), aI K 140 (Pg_namedPlaces pr))]) cx 10 rfl h22 dX6_findNames_67 ef23 rfl ?_
                obtain ⟨x24, ex24, hf⟩ := nm_of hf
                refine r_iinc (pc := 68) (loc' := [(2, .int x24), (3, .int r13), (0, .ref (q 0)), (1, .ref (g 0))]) (v := x24) cx dX6_findNames_68 3 rfl ((congrArg (fun z => x1 + z) ic_1).trans ex24.symm) (by decide) rfl ?_
                refine r_goto (pc := 71) (tgt := 2) cx dX6_findNames_71 (by decide) ?_
                refine r_loc (loc' := [(0, .ref (q 0)), (1, .ref (g 0)), (2, .int x24)]) [2, 3, 0] rfl ?_
                exact ih2 _ _ _ hf
  refine r_loc (loc' := [(0, .ref (q 0)), (1, .ref (g 0)), (2, .int (0 : Int32))]) [1, 2, 0] rfl ?_
  refine hL2 _ (fun f4 v5 hf => ?_) _ _ _ _ hf
  cases hf
  exact r_vret (pc := 74) cx rfl dX6_findNames_74
theorem yv_X6_findNames : YV yX6_findNames cX6_findNames 4 (none) 1 := ⟨⟨by decide +kernel, by decide +kernel, by decide +kernel⟩, wd_695, wd_90, wd_694, wd_13⟩
def f_Rd_readText_L45  (k45_81 : T_Pg → T_Rd → Option (T_Rd × T_Pg)) : Nat → Int32 → T_Pg → T_Rd → Option (T_Rd × T_Pg)
  | 0, _, _, _ => none
  | n45 + 1, x5, v6, v7 =>
    (if (700 : Int32) ≤ x5 then (k45_81 v6 v7) else (if (Rd_token v7) = (0 : Int32) then (k45_81 v6 v7) else (if (Rd_fault v7) = (0 : Int32) then (bd2 (f_Rd_readLine v7 v6) fun (v13 : T_Rd) (v14 : T_Pg) => (bd (f_Rd_advance v13) fun (v16 : T_Rd) => (nm (x5 + (1 : Int32)) fun (x18 : Int32) => (f_Rd_readText_L45 k45_81 n45 x18 v14 v16)))) else (k45_81 v6 v7))))
def f_Rd_readText (v : T_Rd) (pr : T_Pg) (a2 : Int32) : Option (T_Rd × T_Pg) :=
  (bd (f_Pg_clear pr) fun (v1 : T_Pg) => (bd (f_Rd_advance ((Rd_tape v), (0 : Int32), (0 : Int32), (-1 : Int32), (Rd_words v), (Rd_sorts v), (Rd_parts v), (Rd_wantedPlaces v), a2, (0 : Int32), (Rd_token v), (Rd_value v), (Rd_place v), (0 : Int32), (0 : Int32))) fun (v3 : T_Rd) => (f_Rd_readText_L45 (fun (v8 : T_Pg) (v9 : T_Rd) => (bd2 (f_Rd_findNames v9 v8) fun (v19 : T_Rd) (v20 : T_Pg) => (some (v19, v20)))) LF (0 : Int32) v1 v3)))
abbrev rm_Rd_readText : Room := { frames := 4, cells := 0, slots := 0, locals := 91 }
set_option maxRecDepth 100000 in
set_option maxHeartbeats 4000000 in
theorem m_Rd_readText (l : Launch) (D : va_G) (K : Nat → ClassId) (q : Nat → Nat) (v : T_Rd) (g : Nat → Nat) (pr : T_Pg) (a2 : Int32) {o_v : T_Rd} {o_pr : T_Pg} (hf : f_Rd_readText v pr a2 = some (o_v, o_pr)) : MV l yX6_readText cX6_readText 4 (none) rm_Rd_readText D K [.ref (q 0), .ref (g 0), .int a2] (cl_Rd K q v ++ (cl_Pg K g pr)) (cl_Rd K q o_v ++ (cl_Pg K g o_pr)) := by
  refine MV_of (loc0 := [(0, .ref (q 0)), (1, .ref (g 0)), (2, .int a2)]) (by decide +kernel) rfl (Nat.le_of_ble_eq_true rfl) ?_
  intro p e s m args below meth c A cx
  unfold f_Rd_readText at hf
  refine r_ws (ws' := [((q 0), ob 5 [.ref (q 1), .int (Rd_filled v), .int (Rd_fault v), .int (Rd_faultPlace v), .ref (q 2), .ref (q 3), .ref (q 4), .ref (q 5), .int (Rd_limit v), .int (Rd_position v), .int (Rd_token v), .int (Rd_value v), .int (Rd_place v), .int (Rd_toldRules v), .int (Rd_toldData v)]), ((q 1), aB K 700 (Rd_tape v)), ((q 2), aI K 25 (Rd_words v)), ((q 3), aI K 75 (Rd_sorts v)), ((q 4), aI K 3 (Rd_parts v)), ((q 5), aI K 64 (Rd_wantedPlaces v)), ((g 0), ob 3 [.ref (g 1), .ref (g 2), .ref (g 3), .ref (g 4), .ref (g 5), .ref (g 6), .ref (g 7), .ref (g 8), .int (Pg_nameCount pr), .int (Pg_size pr), .int (Pg_lines pr)]), ((g 1), aI K 64 (Pg_code pr)), ((g 2), aI K 64 (Pg_first pr)), ((g 3), aI K 64 (Pg_second pr)), ((g 4), aI K 64 (Pg_third pr)), ((g 5), aI K 8 (Pg_rules pr)), ((g 6), aI K 32 (Pg_data pr)), ((g 7), aI K 140 (Pg_names pr)), ((g 8), aI K 140 (Pg_namedPlaces pr))]) rfl ?_
  refine r_aload_n (pc := 0) cx dX6_readText_0 0 rfl ?_
  refine r_iload_n (pc := 1) cx dX6_readText_1 2 rfl ?_
  refine r_putI (pc := 2) (ws' := [((q 0), ob 5 [.ref (q 1), .int (Rd_filled v), .int (Rd_fault v), .int (Rd_faultPlace v), .ref (q 2), .ref (q 3), .ref (q 4), .ref (q 5), .int a2, .int (Rd_position v), .int (Rd_token v), .int (Rd_value v), .int (Rd_place v), .int (Rd_toldRules v), .int (Rd_toldData v)]), ((q 1), aB K 700 (Rd_tape v)), ((q 2), aI K 25 (Rd_words v)), ((q 3), aI K 75 (Rd_sorts v)), ((q 4), aI K 3 (Rd_parts v)), ((q 5), aI K 64 (Rd_wantedPlaces v)), ((g 0), ob 3 [.ref (g 1), .ref (g 2), .ref (g 3), .ref (g 4), .ref (g 5), .ref (g 6), .ref (g 7), .ref (g 8), .int (Pg_nameCount pr), .int (Pg_size pr), .int (Pg_lines pr)]), ((g 1), aI K 64 (Pg_code pr)), ((g 2), aI K 64 (Pg_first pr)), ((g 3), aI K 64 (Pg_second pr)), ((g 4), aI K 64 (Pg_third pr)), ((g 5), aI K 8 (Pg_rules pr)), ((g 6), aI K 32 (Pg_data pr)), ((g 7), aI K 140 (Pg_names pr)), ((g 8), aI K 140 (Pg_namedPlaces pr))]) cx cf_X6 0 8 rfl (by decide) (Nat.le_of_ble_eq_true rfl) rfl pfd_I wd_260 dX6_readText_2 rfl ?_
  refine r_aload_n (pc := 5) cx dX6_readText_5 0 rfl ?_
  refine r_iconst (pc := 6) cx dX6_readText_6 ic_0 ?_
  refine r_putI (pc := 7) (ws' := [((q 0), ob 5 [.ref (q 1), .int (Rd_filled v), .int (Rd_fault v), .int (Rd_faultPlace v), .ref (q 2), .ref (q 3), .ref (q 4), .ref (q 5), .int a2, .int (0 : Int32), .int (Rd_token v), .int (Rd_value v), .int (Rd_place v), .int (Rd_toldRules v), .int (Rd_toldData v)]), ((q 1), aB K 700 (Rd_tape v)), ((q 2), aI K 25 (Rd_words v)), ((q 3), aI K 75 (Rd_sorts v)), ((q 4), aI K 3 (Rd_parts v)), ((q 5), aI K 64 (Rd_wantedPlaces v)), ((g 0), ob 3 [.ref (g 1), .ref (g 2), .ref (g 3), .ref (g 4), .ref (g 5), .ref (g 6), .ref (g 7), .ref (g 8), .int (Pg_nameCount pr), .int (Pg_size pr), .int (Pg_lines pr)]), ((g 1), aI K 64 (Pg_code pr)), ((g 2), aI K 64 (Pg_first pr)), ((g 3), aI K 64 (Pg_second pr)), ((g 4), aI K 64 (Pg_third pr)), ((g 5), aI K 8 (Pg_rules pr)), ((g 6), aI K 32 (Pg_data pr)), ((g 7), aI K 140 (Pg_names pr)), ((g 8), aI K 140 (Pg_namedPlaces pr))]) cx cf_X6 0 9 rfl (by decide) (Nat.le_of_ble_eq_true rfl) rfl pfd_I wd_261 dX6_readText_7 rfl ?_
  refine r_aload_n (pc := 10) cx dX6_readText_10 0 rfl ?_
  refine r_iconst (pc := 11) cx dX6_readText_11 ic_0 ?_
  refine r_putI (pc := 12) (ws' := [((q 0), ob 5 [.ref (q 1), .int (Rd_filled v), .int (0 : Int32), .int (Rd_faultPlace v), .ref (q 2), .ref (q 3), .ref (q 4), .ref (q 5), .int a2, .int (0 : Int32), .int (Rd_token v), .int (Rd_value v), .int (Rd_place v), .int (Rd_toldRules v), .int (Rd_toldData v)]), ((q 1), aB K 700 (Rd_tape v)), ((q 2), aI K 25 (Rd_words v)), ((q 3), aI K 75 (Rd_sorts v)), ((q 4), aI K 3 (Rd_parts v)), ((q 5), aI K 64 (Rd_wantedPlaces v)), ((g 0), ob 3 [.ref (g 1), .ref (g 2), .ref (g 3), .ref (g 4), .ref (g 5), .ref (g 6), .ref (g 7), .ref (g 8), .int (Pg_nameCount pr), .int (Pg_size pr), .int (Pg_lines pr)]), ((g 1), aI K 64 (Pg_code pr)), ((g 2), aI K 64 (Pg_first pr)), ((g 3), aI K 64 (Pg_second pr)), ((g 4), aI K 64 (Pg_third pr)), ((g 5), aI K 8 (Pg_rules pr)), ((g 6), aI K 32 (Pg_data pr)), ((g 7), aI K 140 (Pg_names pr)), ((g 8), aI K 140 (Pg_namedPlaces pr))]) cx cf_X6 0 2 rfl (by decide) (Nat.le_of_ble_eq_true rfl) rfl pfd_I wd_253 dX6_readText_12 rfl ?_
  refine r_aload_n (pc := 15) cx dX6_readText_15 0 rfl ?_
  refine r_iconst (pc := 16) cx dX6_readText_16 ic_m1 ?_
  refine r_putI (pc := 17) (ws' := [((q 0), ob 5 [.ref (q 1), .int (Rd_filled v), .int (0 : Int32), .int (-1 : Int32), .ref (q 2), .ref (q 3), .ref (q 4), .ref (q 5), .int a2, .int (0 : Int32), .int (Rd_token v), .int (Rd_value v), .int (Rd_place v), .int (Rd_toldRules v), .int (Rd_toldData v)]), ((q 1), aB K 700 (Rd_tape v)), ((q 2), aI K 25 (Rd_words v)), ((q 3), aI K 75 (Rd_sorts v)), ((q 4), aI K 3 (Rd_parts v)), ((q 5), aI K 64 (Rd_wantedPlaces v)), ((g 0), ob 3 [.ref (g 1), .ref (g 2), .ref (g 3), .ref (g 4), .ref (g 5), .ref (g 6), .ref (g 7), .ref (g 8), .int (Pg_nameCount pr), .int (Pg_size pr), .int (Pg_lines pr)]), ((g 1), aI K 64 (Pg_code pr)), ((g 2), aI K 64 (Pg_first pr)), ((g 3), aI K 64 (Pg_second pr)), ((g 4), aI K 64 (Pg_third pr)), ((g 5), aI K 8 (Pg_rules pr)), ((g 6), aI K 32 (Pg_data pr)), ((g 7), aI K 140 (Pg_names pr)), ((g 8), aI K 140 (Pg_namedPlaces pr))]) cx cf_X6 0 3 rfl (by decide) (Nat.le_of_ble_eq_true rfl) rfl pfd_I wd_254 dX6_readText_17 rfl ?_
  refine r_aload_n (pc := 20) cx dX6_readText_20 0 rfl ?_
  refine r_iconst (pc := 21) cx dX6_readText_21 ic_0 ?_
  refine r_putI (pc := 22) (ws' := [((q 0), ob 5 [.ref (q 1), .int (Rd_filled v), .int (0 : Int32), .int (-1 : Int32), .ref (q 2), .ref (q 3), .ref (q 4), .ref (q 5), .int a2, .int (0 : Int32), .int (Rd_token v), .int (Rd_value v), .int (Rd_place v), .int (0 : Int32), .int (Rd_toldData v)]), ((q 1), aB K 700 (Rd_tape v)), ((q 2), aI K 25 (Rd_words v)), ((q 3), aI K 75 (Rd_sorts v)), ((q 4), aI K 3 (Rd_parts v)), ((q 5), aI K 64 (Rd_wantedPlaces v)), ((g 0), ob 3 [.ref (g 1), .ref (g 2), .ref (g 3), .ref (g 4), .ref (g 5), .ref (g 6), .ref (g 7), .ref (g 8), .int (Pg_nameCount pr), .int (Pg_size pr), .int (Pg_lines pr)]), ((g 1), aI K 64 (Pg_code pr)), ((g 2), aI K 64 (Pg_first pr)), ((g 3), aI K 64 (Pg_second pr)), ((g 4), aI K 64 (Pg_third pr)), ((g 5), aI K 8 (Pg_rules pr)), ((g 6), aI K 32 (Pg_data pr)), ((g 7), aI K 140 (Pg_names pr)), ((g 8), aI K 140 (Pg_namedPlaces pr))]) cx cf_X6 0 13 rfl (by decide) (Nat.le_of_ble_eq_true rfl) rfl pfd_I wd_265 dX6_readText_22 rfl ?_
  refine r_aload_n (pc := 25) cx dX6_readText_25 0 rfl ?_
  refine r_iconst (pc := 26) cx dX6_readText_26 ic_0 ?_
  refine r_putI (pc := 27) (ws' := [((q 0), ob 5 [.ref (q 1), .int (Rd_filled v), .int (0 : Int32), .int (-1 : Int32), .ref (q 2), .ref (q 3), .ref (q 4), .ref (q 5), .int a2, .int (0 : Int32), .int (Rd_token v), .int (Rd_value v), .int (Rd_place v), .int (0 : Int32), .int (0 : Int32)]), ((q 1), aB K 700 (Rd_tape v)), ((q 2), aI K 25 (Rd_words v)), ((q 3), aI K 75 (Rd_sorts v)), ((q 4), aI K 3 (Rd_parts v)), ((q 5), aI K 64 (Rd_wantedPlaces v)), ((g 0), ob 3 [.ref (g 1), .ref (g 2), .ref (g 3), .ref (g 4), .ref (g 5), .ref (g 6), .ref (g 7), .ref (g 8), .int (Pg_nameCount pr), .int (Pg_size pr), .int (Pg_lines pr)]), ((g 1), aI K 64 (Pg_code pr)), ((g 2), aI K 64 (Pg_first pr)), ((g 3), aI K 64 (Pg_second pr)), ((g 4), aI K 64 (Pg_third pr)), ((g 5), aI K 8 (Pg_rules pr)), ((g 6), aI K 32 (Pg_data pr)), ((g 7), aI K 140 (Pg_names pr)), ((g 8), aI K 140 (Pg_namedPlaces pr))]) cx cf_X6 0 14 rfl (by decide) (Nat.le_of_ble_eq_true rfl) rfl pfd_I wd_266 dX6_readText_27 rfl ?_
  refine r_aload_n (pc := 30) cx dX6_readText_30 0 rfl ?_
  refine r_iconst (pc := 31) cx dX6_readText_31 ic_0 ?_
  refine r_putI (pc := 32) (ws' := [((q 0), ob 5 [.ref (q 1), .int (0 : Int32), .int (0 : Int32), .int (-1 : Int32), .ref (q 2), .ref (q 3), .ref (q 4), .ref (q 5), .int a2, .int (0 : Int32), .int (Rd_token v), .int (Rd_value v), .int (Rd_place v), .int (0 : Int32), .int (0 : Int32)]), ((q 1), aB K 700 (Rd_tape v)), ((q 2), aI K 25 (Rd_words v)), ((q 3), aI K 75 (Rd_sorts v)), ((q 4), aI K 3 (Rd_parts v)), ((q 5), aI K 64 (Rd_wantedPlaces v)), ((g 0), ob 3 [.ref (g 1), .ref (g 2), .ref (g 3), .ref (g 4), .ref (g 5), .ref (g 6), .ref (g 7), .ref (g 8), .int (Pg_nameCount pr), .int (Pg_size pr), .int (Pg_lines pr)]), ((g 1), aI K 64 (Pg_code pr)), ((g 2), aI K 64 (Pg_first pr)), ((g 3), aI K 64 (Pg_second pr)), ((g 4), aI K 64 (Pg_third pr)), ((g 5), aI K 8 (Pg_rules pr)), ((g 6), aI K 32 (Pg_data pr)), ((g 7), aI K 140 (Pg_names pr)), ((g 8), aI K 140 (Pg_namedPlaces pr))]) cx cf_X6 0 1 rfl (by decide) (Nat.le_of_ble_eq_true rfl) rfl pfd_I wd_251 dX6_readText_32 rfl ?_
  refine r_aload_n (pc := 35) cx dX6_readText_35 1 rfl ?_
  obtain ⟨v1, hc2, hf⟩ := bd_of hf
  refine r_Vv (pc := 36) (ws' := [((q 0), ob 5 [.ref (q 1), .int (0 : Int32), .int (0 : Int32), .int (-1 : Int32), .ref (q 2), .ref (q 3), .ref (q 4), .ref (q 5), .int a2, .int (0 : Int32), .int (Rd_token v), .int (Rd_value v), .int (Rd_place v), .int (0 : Int32), .int (0 : Int32)]), ((q 1), aB K 700 (Rd_tape v)), ((q 2), aI K 25 (Rd_words v)), ((q 3), aI K 75 (Rd_sorts v)), ((q 4), aI K 3 (Rd_parts v)), ((q 5), aI K 64 (Rd_wantedPlaces v)), ((g 0), ob 3 [.ref (g 1), .ref (g 2), .ref (g 3), .ref (g 4), .ref (g 5), .ref (g 6), .ref (g 7), .ref (g 8), .int (Pg_nameCount v1), .int (Pg_size v1), .int (Pg_lines v1)]), ((g 1), aI K 64 (Pg_code v1)), ((g 2), aI K 64 (Pg_first v1)), ((g 3), aI K 64 (Pg_second v1)), ((g 4), aI K 64 (Pg_third v1)), ((g 5), aI K 8 (Pg_rules v1)), ((g 6), aI K 32 (Pg_data v1)), ((g 7), aI K 140 (Pg_names v1)), ((g 8), aI K 140 (Pg_namedPlaces v1))]) cx [] [] [6, 7, 8, 9, 10, 11, 12, 13, 14] (m_Pg_clear l D K g pr hc2) yv_X4_clear wd_620 ⟨rfl, rfl⟩ (by decide) rfl rfl rfl (by decide) 6 rfl rfl rfl (Nat.le_of_ble_eq_true rfl) dX6_readText_36 ?_
  refine r_aload_n (pc := 39) cx dX6_readText_39 0 rfl ?_
  obtain ⟨v3, hc4, hf⟩ := bd_of hf
  refine r_Vv (pc := 40) (ws' := [((q 0), ob 5 [.ref (q 1), .int (Rd_filled v3), .int (Rd_fault v3), .int (Rd_faultPlace v3), .ref (q 2), .ref (q 3), .ref (q 4), .ref (q 5), .int (Rd_limit v3), .int (Rd_position v3), .int (Rd_token v3), .int (Rd_value v3), .int (Rd_place v3), .int (Rd_toldRules v3), .int (Rd_toldData v3)]), ((q 1), aB K 700 (Rd_tape v3)), ((q 2), aI K 25 (Rd_words v3)), ((q 3), aI K 75 (Rd_sorts v3)), ((q 4), aI K 3 (Rd_parts v3)), ((q 5), aI K 64 (Rd_wantedPlaces v3)), ((g 0), ob 3 [.ref (g 1), .ref (g 2), .ref (g 3), .ref (g 4), .ref (g 5), .ref (g 6), .ref (g 7), .ref (g 8), .int (Pg_nameCount v1), .int (Pg_size v1), .int (Pg_lines v1)]), ((g 1), aI K 64 (Pg_code v1)), ((g 2), aI K 64 (Pg_first v1)), ((g 3), aI K 64 (Pg_second v1)), ((g 4), aI K 64 (Pg_third v1)), ((g 5), aI K 8 (Pg_rules v1)), ((g 6), aI K 32 (Pg_data v1)), ((g 7), aI K 140 (Pg_names v1)), ((g 8), aI K 140 (Pg_namedPlaces v1))]) cx [] [] [0, 1, 2, 3, 4, 5] (m_Rd_advance l D K q ((Rd_tape v), (0 : Int32), (0 : Int32), (-1 : Int32), (Rd_words v), (Rd_sorts v), (Rd_parts v), (Rd_wantedPlaces v), a2, (0 : Int32), (Rd_token v), (Rd_value v), (Rd_place v), (0 : Int32), (0 : Int32)) hc4) yv_X6_advance wd_621 ⟨rfl, rfl⟩ (by decide) rfl rfl rfl (by decide) 0 rfl rfl rfl (Nat.le_of_ble_eq_true rfl) dX6_readText_40 ?_
  refine r_iconst (pc := 43) cx dX6_readText_43 ic_0 ?_
  refine r_istore_n (pc := 44) (loc' := [(3, .int (0 : Int32)), (0, .ref (q 0)), (1, .ref (g 0)), (2, .int a2)]) cx dX6_readText_44 rfl (by decide) rfl ?_
  have hL45 : ∀ (k45_81 : T_Pg → T_Rd → Option (T_Rd × T_Pg)), (∀ (v8 : T_Pg) (v9 : T_Rd), k45_81 v8 v9 = some (o_v, o_pr) → WW p l e rm_Rd_readText s m args below meth c D A 4 0 0 (MQ below (QV D K A (cl_Rd K q o_v ++ (cl_Pg K g o_pr))) args s 0 0 A) ([((q 0), ob 5 [.ref (q 1), .int (Rd_filled v9), .int (Rd_fault v9), .int (Rd_faultPlace v9), .ref (q 2), .ref (q 3), .ref (q 4), .ref (q 5), .int (Rd_limit v9), .int (Rd_position v9), .int (Rd_token v9), .int (Rd_value v9), .int (Rd_place v9), .int (Rd_toldRules v9), .int (Rd_toldData v9)]), ((q 1), aB K 700 (Rd_tape v9)), ((q 2), aI K 25 (Rd_words v9)), ((q 3), aI K 75 (Rd_sorts v9)), ((q 4), aI K 3 (Rd_parts v9)), ((q 5), aI K 64 (Rd_wantedPlaces v9)), ((g 0), ob 3 [.ref (g 1), .ref (g 2), .ref (g 3), .ref (g 4), .ref (g 5), .ref (g 6), .ref (g 7), .ref (g 8), .int (Pg_nameCount v8), .int (Pg_size v8), .int (Pg_lines v8)]), ((g 1), aI K 64 (Pg_code v8)), ((g 2), aI K 64 (Pg_first v8)), ((g 3), aI K 64 (Pg_second v8)), ((g 4), aI K 64 (Pg_third v8)), ((g 5), aI K 8 (Pg_rules v8)), ((g 6), aI K 32 (Pg_data v8)), ((g 7), aI K 140 (Pg_names v8)), ((g 8), aI K 140 (Pg_namedPlaces v8))]) ([(0, .ref (q 0)), (1, .ref (g 0))]) ([]) 81) → ∀ (n45 : Nat) (x5 : Int32) (v6 : T_Pg) (v7 : T_Rd), f_Rd_readText_L45 k45_81 n45 x5 v6 v7 = some (o_v, o_pr) → WW p l e rm_Rd_readText s m args below meth c D A 4 0 0 (MQ below (QV D K A (cl_Rd K q o_v ++ (cl_Pg K g o_pr))) args s 0 0 A) ([((q 0), ob 5 [.ref (q 1), .int (Rd_filled v7), .int (Rd_fault v7), .int (Rd_faultPlace v7), .ref (q 2), .ref (q 3), .ref (q 4), .ref (q 5), .int (Rd_limit v7), .int (Rd_position v7), .int (Rd_token v7), .int (Rd_value v7), .int (Rd_place v7), .int (Rd_toldRules v7), .int (Rd_toldData v7)]), ((q 1), aB K 700 (Rd_tape v7)), ((q 2), aI K 25 (Rd_words v7)), ((q 3), aI K 75 (Rd_sorts v7)), ((q 4), aI K 3 (Rd_parts v7)), ((q 5), aI K 64 (Rd_wantedPlaces v7)), ((g 0), ob 3 [.ref (g 1), .ref (g 2), .ref (g 3), .ref (g 4), .ref (g 5), .ref (g 6), .ref (g 7), .ref (g 8), .int (Pg_nameCount v6), .int (Pg_size v6), .int (Pg_lines v6)]), ((g 1), aI K 64 (Pg_code v6)), ((g 2), aI K 64 (Pg_first v6)), ((g 3), aI K 64 (Pg_second v6)), ((g 4), aI K 64 (Pg_third v6)), ((g 5), aI K 8 (Pg_rules v6)), ((g 6), aI K 32 (Pg_data v6)), ((g 7), aI K 140 (Pg_names v6)), ((g 8), aI K 140 (Pg_namedPlaces v6))]) ([(0, .ref (q 0)), (1, .ref (g 0)), (3, .int x5)]) ([]) 45 := by
    intro k45_81 hk45_81 n45
    induction n45 with
    | zero => intro x5 v6 v7 hf; exact (nomatch (show (none : Option (T_Rd × T_Pg)) = some _ from hf))
    | succ n45 ih45 =>
      intro x5 v6 v7 hf
      rw [f_Rd_readText_L45] at hf
      refine r_iload_n (pc := 45) cx dX6_readText_45 2 rfl ?_
      refine r_sipush (pc := 46) cx dX6_readText_46 sp_700 ?_
      refine r_icmp_ge (pc := 49) (tgt := 81) cx dX6_readText_49 (by decide) (fun h10 => ?_) (fun h10 => ?_)
      · have hf := ifp h10 hf
        refine r_loc (loc' := [(0, .ref (q 0)), (1, .ref (g 0))]) [0, 1] rfl ?_
        exact hk45_81 _ _ hf
      · have hf := ifn h10 hf
        refine r_aload_n (pc := 52) cx dX6_readText_52 0 rfl ?_
        refine r_get (pc := 53) cx cf_X6 0 10 rfl (by decide) rfl wd_262 dX6_readText_53 ?_
        refine r_if_eq (pc := 56) (tgt := 81) cx dX6_readText_56 (by decide) (fun h11 => ?_) (fun h11 => ?_)
        · have hf := ifp h11 hf
          refine r_loc (loc' := [(0, .ref (q 0)), (1, .ref (g 0))]) [0, 1] rfl ?_
          exact hk45_81 _ _ hf
        · have hf := ifn h11 hf
          refine r_aload_n (pc := 59) cx dX6_readText_59 0 rfl ?_
          refine r_get (pc := 60) cx cf_X6 0 2 rfl (by decide) rfl wd_253 dX6_readText_60 ?_
          refine r_if_ne (pc := 63) (tgt := 81) cx dX6_readText_63 (by decide) (fun h12 => ?_) (fun h12 => ?_)
          · have hf := ifn h12 hf
            refine r_loc (loc' := [(0, .ref (q 0)), (1, .ref (g 0))]) [0, 1] rfl ?_
            exact hk45_81 _ _ hf
          · have hf := ifp h12 hf
            refine r_aload_n (pc := 66) cx dX6_readText_66 0 rfl ?_
            refine r_aload_n (pc := 67) cx dX6_readText_67 1 rfl ?_
            obtain ⟨v13, v14, hc15, hf⟩ := bd2_of hf
            refine r_Vv (pc := 68) (ws' := [((q 0), ob 5 [.ref (q 1), .int (Rd_filled v13), .int (Rd_fault v13), .int (Rd_faultPlace v13), .ref (q 2), .ref (q 3), .ref (q 4), .ref (q 5), .int (Rd_limit v13), .int (Rd_position v13), .int (Rd_token v13), .int (Rd_value v13), .int (Rd_place v13), .int (Rd_toldRules v13), .int (Rd_toldData v13)]), ((q 1), aB K 700 (Rd_tape v13)), ((q 2), aI K 25 (Rd_words v13)), ((q 3), aI K 75 (Rd_sorts v13)), ((q 4), aI K 3 (Rd_parts v13)), ((q 5), aI K 64 (Rd_wantedPlaces v13)), ((g 0), ob 3 [.ref (g 1), .ref (g 2), .ref (g 3), .ref (g 4), .ref (g 5), .ref (g 6), .ref (g 7), .ref (g 8), .int (Pg_nameCount v14), .int (Pg_size v14), .int (Pg_lines v14)]), ((g 1), aI K 64 (Pg_code v14)), ((g 2), aI K 64 (Pg_first v14)), ((g 3), aI K 64 (Pg_second v14)), ((g 4), aI K 64 (Pg_third v14)), ((g 5), aI K 8 (Pg_rules v14)), ((g 6), aI K 32 (Pg_data v14)), ((g 7), aI K 140 (Pg_names v14)), ((g 8), aI K 140 (Pg_namedPlaces v14))]) cx [.ref (g 0)] [] [0, 1, 2, 3, 4, 5, 6, 7, 8, 9, 10, 11, 12, 13, 14] (m_Rd_readLine l D K q v7 g v6 hc15) yv_X6_readLine wd_641 ⟨rfl, rfl⟩ (by decide) rfl rfl rfl (by decide) 0 rfl rfl rfl (Nat.le_of_ble_eq_true rfl) dX6_readText_68 ?_
            refine r_aload_n (pc := 71) cx dX6_readText_71 0 rfl ?_
            obtain ⟨v16, hc17, hf⟩ := bd_of hf
            refine r_Vv (pc := 72) (ws' := [((q 0), ob 5 [.ref (q 1), .int (Rd_filled v16), .int (Rd_fault v16), .int (Rd_faultPlace v16), .ref (q 2), .ref (q 3), .ref (q 4), .ref (q 5), .int (Rd_limit v16), .int (Rd_position v16), .int (Rd_token v16), .int (Rd_value v16), .int (Rd_place v16), .int (Rd_toldRules v16), .int (Rd_toldData v16)]), ((q 1), aB K 700 (Rd_tape v16)), ((q 2), aI K 25 (Rd_words v16)), ((q 3), aI K 75 (Rd_sorts v16)), ((q 4), aI K 3 (Rd_parts v16)), ((q 5), aI K 64 (Rd_wantedPlaces v16)), ((g 0), ob 3 [.ref (g 1), .ref (g 2), .ref (g 3), .ref (g 4), .ref (g 5), .ref (g 6), .ref (g 7), .ref (g 8), .int (Pg_nameCount v14), .int (Pg_size v14), .int (Pg_lines v14)]), ((g 1), aI K 64 (Pg_code v14)), ((g 2), aI K 64 (Pg_first v14)), ((g 3), aI K 64 (Pg_second v14)), ((g 4), aI K 64 (Pg_third v14)), ((g 5), aI K 8 (Pg_rules v14)), ((g 6), aI K 32 (Pg_data v14)), ((g 7), aI K 140 (Pg_names v14)), ((g 8), aI K 140 (Pg_namedPlaces v14))]) cx [] [] [0, 1, 2, 3, 4, 5] (m_Rd_advance l D K q v13 hc17) yv_X6_advance wd_621 ⟨rfl, rfl⟩ (by decide) rfl rfl rfl (by decide) 0 rfl rfl rfl (Nat.le_of_ble_eq_true rfl) dX6_readText_72 ?_
            obtain ⟨x18, ex18, hf⟩ := nm_of hf
            refine r_iinc (pc := 75) (loc' := [(3, .int x18), (0, .ref (q 0)), (1, .ref (g 0))]) (v := x18) cx dX6_readText_75 2 rfl ((congrArg (fun z => x5 + z) ic_1).trans ex18.symm) (by decide) rfl ?_
            refine r_goto (pc := 78) (tgt := 45) cx dX6_readText_78 (by decide) ?_
            refine r_loc (loc' := [(0, .ref (q 0)), (1, .ref (g 0)), (3, .int x18)]) [1, 2, 0] rfl ?_
            exact ih45 _ _ _ hf
  refine r_loc (loc' := [(0, .ref (q 0)), (1, .ref (g 0)), (3, .int (0 : Int32))]) [1, 2, 0] rfl ?_
  refine hL45 _ (fun v8 v9 hf => ?_) _ _ _ _ hf
  refine r_aload_n (pc := 81) cx dX6_readText_81 0 rfl ?_
  refine r_aload_n (pc := 82) cx dX6_readText_82 1 rfl ?_
  obtain ⟨v19, v20, hc21, hf⟩ := bd2_of hf
  refine r_Vv (pc := 83) (ws' := [((q 0), ob 5 [.ref (q 1), .int (Rd_filled v19), .int (Rd_fault v19), .int (Rd_faultPlace v19), .ref (q 2), .ref (q 3), .ref (q 4), .ref (q 5), .int (Rd_limit v19), .int (Rd_position v19), .int (Rd_token v19), .int (Rd_value v19), .int (Rd_place v19), .int (Rd_toldRules v19), .int (Rd_toldData v19)]), ((q 1), aB K 700 (Rd_tape v19)), ((q 2), aI K 25 (Rd_words v19)), ((q 3), aI K 75 (Rd_sorts v19)), ((q 4), aI K 3 (Rd_parts v19)), ((q 5), aI K 64 (Rd_wantedPlaces v19)), ((g 0), ob 3 [.ref (g 1), .ref (g 2), .ref (g 3), .ref (g 4), .ref (g 5), .ref (g 6), .ref (g 7), .ref (g 8), .int (Pg_nameCount v20), .int (Pg_size v20), .int (Pg_lines v20)]), ((g 1), aI K 64 (Pg_code v20)), ((g 2), aI K 64 (Pg_first v20)), ((g 3), aI K 64 (Pg_second v20)), ((g 4), aI K 64 (Pg_third v20)), ((g 5), aI K 8 (Pg_rules v20)), ((g 6), aI K 32 (Pg_data v20)), ((g 7), aI K 140 (Pg_names v20)), ((g 8), aI K 140 (Pg_namedPlaces v20))]) cx [.ref (g 0)] [] [0, 1, 2, 3, 4, 5, 6, 7, 8, 9, 10, 11, 12, 13, 14] (m_Rd_findNames l D K q v9 g v8 hc21) yv_X6_findNames wd_692 ⟨rfl, rfl⟩ (by decide) rfl rfl rfl (by decide) 0 rfl rfl rfl (Nat.le_of_ble_eq_true rfl) dX6_readText_83 ?_
  cases hf
  exact r_vret (pc := 86) cx rfl dX6_readText_86
theorem yv_X6_readText : YV yX6_readText cX6_readText 4 (none) 2 := ⟨⟨by decide +kernel, by decide +kernel, by decide +kernel⟩, wd_619, wd_90, wd_617, wd_618⟩
