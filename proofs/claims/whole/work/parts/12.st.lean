def f_St_loosen_L2  (k2_28 : (Nat → Int32) → (Nat → Int32) → Option (T_St)) : Nat → Int32 → (Nat → Int32) → (Nat → Int32) → Option (T_St)
  | 0, _, _, _ => none
  | n2 + 1, x1, f2, f3 =>
    (if (8 : Int32) ≤ x1 then (k2_28 f2 f3) else (if ix x1 8 then (nm (upd f2 x1.toNatClampNeg (0 : Int32)) fun (f8 : Nat → Int32) => (if ix x1 8 then (nm (upd f3 x1.toNatClampNeg (0 : Int32)) fun (f10 : Nat → Int32) => (nm (x1 + (1 : Int32)) fun (x11 : Int32) => (f_St_loosen_L2 k2_28 n2 x11 f8 f10))) else none)) else none))
def f_St_loosen (v : T_St) : Option (T_St) :=
  (f_St_loosen_L2 (fun (f4 : (Nat → Int32)) (f5 : (Nat → Int32)) => (some ((St_registers v), (St_floats v), f4, f5, (St_place v), (St_steps v)))) LF (0 : Int32) (St_stuckMask v) (St_stuckOnes v))
abbrev rm_St_loosen : Room := { frames := 0, cells := 0, slots := 0, locals := 0 }
set_option maxRecDepth 100000 in
set_option maxHeartbeats 4000000 in
theorem m_St_loosen (l : Launch) (D : va_G) (K : Nat → ClassId) (q : Nat → Nat) (v : T_St) {o_v : T_St} (hf : f_St_loosen v = some o_v) : MV l yX7_loosen cX7_loosen 2 (none) rm_St_loosen D K [.ref (q 0)] (cl_St K q v) (cl_St K q o_v) := by
  refine MV_of (loc0 := [(0, .ref (q 0))]) (by decide +kernel) rfl (Nat.le_of_ble_eq_true rfl) ?_
  intro p e s m args below meth c A cx
  unfold f_St_loosen at hf
  refine r_ws (ws' := [((q 0), ob 6 [.ref (q 1), .ref (q 2), .ref (q 3), .ref (q 4), .int (St_place v), .int (St_steps v)]), ((q 1), aI K 8 (St_registers v)), ((q 2), aI K 4 (St_floats v)), ((q 3), aI K 8 (St_stuckMask v)), ((q 4), aI K 8 (St_stuckOnes v))]) rfl ?_
  refine r_iconst (pc := 0) cx dX7_loosen_0 ic_0 ?_
  refine r_istore_n (pc := 1) (loc' := [(1, .int (0 : Int32)), (0, .ref (q 0))]) cx dX7_loosen_1 rfl (by decide) rfl ?_
  have hL2 : ∀ (k2_28 : (Nat → Int32) → (Nat → Int32) → Option (T_St)), (∀ (f4 : (Nat → Int32)) (f5 : (Nat → Int32)), k2_28 f4 f5 = some o_v → WW p l e rm_St_loosen s m args below meth c D A 2 0 0 (MQ below (QV D K A (cl_St K q o_v)) args s 0 0 A) ([((q 0), ob 6 [.ref (q 1), .ref (q 2), .ref (q 3), .ref (q 4), .int (St_place v), .int (St_steps v)]), ((q 1), aI K 8 (St_registers v)), ((q 2), aI K 4 (St_floats v)), ((q 3), aI K 8 f4), ((q 4), aI K 8 f5)]) ([]) ([]) 28) → ∀ (n2 : Nat) (x1 : Int32) (f2 : (Nat → Int32)) (f3 : (Nat → Int32)), f_St_loosen_L2 k2_28 n2 x1 f2 f3 = some o_v → WW p l e rm_St_loosen s m args below meth c D A 2 0 0 (MQ below (QV D K A (cl_St K q o_v)) args s 0 0 A) ([((q 0), ob 6 [.ref (q 1), .ref (q 2), .ref (q 3), .ref (q 4), .int (St_place v), .int (St_steps v)]), ((q 1), aI K 8 (St_registers v)), ((q 2), aI K 4 (St_floats v)), ((q 3), aI K 8 f2), ((q 4), aI K 8 f3)]) ([(0, .ref (q 0)), (1, .int x1)]) ([]) 2 := by
    intro k2_28 hk2_28 n2
    induction n2 with
    | zero => intro x1 f2 f3 hf; exact (nomatch (show (none : Option (T_St)) = some _ from hf))
    | succ n2 ih2 =>
      intro x1 f2 f3 hf
      rw [f_St_loosen_L2] at hf
      refine r_iload_n (pc := 2) cx dX7_loosen_2 1 rfl ?_
      refine r_bipush (pc := 3) cx dX7_loosen_3 bp_8 ?_
      refine r_icmp_ge (pc := 5) (tgt := 28) cx dX7_loosen_5 (by decide) (fun h6 => ?_) (fun h6 => ?_)
      · have hf := ifp h6 hf
        refine r_loc (loc' := []) [] rfl ?_
        exact hk2_28 _ _ hf
      · have hf := ifn h6 hf
        refine r_aload_n (pc := 8) cx dX7_loosen_8 0 rfl ?_
        refine r_get (pc := 9) cx cf_X7 0 2 rfl (by decide) rfl wd_315 dX7_loosen_9 ?_
        refine r_iload_n (pc := 12) cx dX7_loosen_12 1 rfl ?_
        refine r_iconst (pc := 13) cx dX7_loosen_13 ic_0 ?_
        obtain ⟨h7, hf⟩ := chk_of hf
        obtain ⟨f8, ef8, hf⟩ := nm_of hf
        refine r_iast (pc := 14) (ws' := [((q 0), ob 6 [.ref (q 1), .ref (q 2), .ref (q 3), .ref (q 4), .int (St_place v), .int (St_steps v)]), ((q 1), aI K 8 (St_registers v)), ((q 2), aI K 4 (St_floats v)), ((q 3), aI K 8 f8), ((q 4), aI K 8 f3)]) cx 3 rfl h7 dX7_loosen_14 ef8 rfl ?_
        refine r_aload_n (pc := 15) cx dX7_loosen_15 0 rfl ?_
        refine r_get (pc := 16) cx cf_X7 0 3 rfl (by decide) rfl wd_316 dX7_loosen_16 ?_
        refine r_iload_n (pc := 19) cx dX7_loosen_19 1 rfl ?_
        refine r_iconst (pc := 20) cx dX7_loosen_20 ic_0 ?_
        obtain ⟨h9, hf⟩ := chk_of hf
        obtain ⟨f10, ef10, hf⟩ := nm_of hf
        refine r_iast (pc := 21) (ws' := [((q 0), ob 6 [.ref (q 1), .ref (q 2), .ref (q 3), .ref (q 4), .int (St_place v), .int (St_steps v)]), ((q 1), aI K 8 (St_registers v)), ((q 2), aI K 4 (St_floats v)), ((q 3), aI K 8 f8), ((q 4), aI K 8 f10)]) cx 4 rfl h9 dX7_loosen_21 ef10 rfl ?_
        obtain ⟨x11, ex11, hf⟩ := nm_of hf
        refine r_iinc (pc := 22) (loc' := [(1, .int x11), (0, .ref (q 0))]) (v := x11) cx dX7_loosen_22 1 rfl ((congrArg (fun z => x1 + z) ic_1).trans ex11.symm) (by decide) rfl ?_
        refine r_goto (pc := 25) (tgt := 2) cx dX7_loosen_25 (by decide) ?_
        refine r_loc (loc' := [(0, .ref (q 0)), (1, .int x11)]) [1, 0] rfl ?_
        exact ih2 _ _ _ hf
  refine r_loc (loc' := [(0, .ref (q 0)), (1, .int (0 : Int32))]) [1, 0] rfl ?_
  refine hL2 _ (fun f4 f5 hf => ?_) _ _ _ _ hf
  cases hf
  exact r_vret (pc := 28) cx rfl dX7_loosen_28
theorem yv_X7_loosen : YV yX7_loosen cX7_loosen 2 (none) 0 := ⟨⟨by decide +kernel, by decide +kernel, by decide +kernel⟩, wd_496, wd_96, wd_494, wd_495⟩
def f_St_clear_L2  (k2_30 : (Nat → Int32) → (Nat → Int32) → Option (T_St)) : Nat → Int32 → (Nat → Int32) → (Nat → Int32) → Option (T_St)
  | 0, _, _, _ => none
  | n2 + 1, x1, f2, f3 =>
    (if (8 : Int32) ≤ x1 then (k2_30 f2 f3) else (if ix x1 8 then (nm (upd f3 x1.toNatClampNeg (0 : Int32)) fun (f8 : Nat → Int32) => (nm (upd f2 ((x1 &&& (3 : Int32))).toNatClampNeg (0 : Int32)) fun (f9 : Nat → Int32) => (nm (x1 + (1 : Int32)) fun (x10 : Int32) => (f_St_clear_L2 k2_30 n2 x10 f9 f8)))) else none))
def f_St_clear (v : T_St) : Option (T_St) :=
  (f_St_clear_L2 (fun (f4 : (Nat → Int32)) (f5 : (Nat → Int32)) => (bd (f_St_loosen (f5, f4, (St_stuckMask v), (St_stuckOnes v), (St_place v), (St_steps v))) fun (v11 : T_St) => (some ((St_registers v11), (St_floats v11), (St_stuckMask v11), (St_stuckOnes v11), (0 : Int32), (0 : Int32))))) LF (0 : Int32) (St_floats v) (St_registers v))
abbrev rm_St_clear : Room := { frames := 1, cells := 0, slots := 0, locals := 21 }
set_option maxRecDepth 100000 in
set_option maxHeartbeats 4000000 in
theorem m_St_clear (l : Launch) (D : va_G) (K : Nat → ClassId) (q : Nat → Nat) (v : T_St) {o_v : T_St} (hf : f_St_clear v = some o_v) : MV l yX7_clear cX7_clear 2 (none) rm_St_clear D K [.ref (q 0)] (cl_St K q v) (cl_St K q o_v) := by
  refine MV_of (loc0 := [(0, .ref (q 0))]) (by decide +kernel) rfl (Nat.le_of_ble_eq_true rfl) ?_
  intro p e s m args below meth c A cx
  unfold f_St_clear at hf
  refine r_ws (ws' := [((q 0), ob 6 [.ref (q 1), .ref (q 2), .ref (q 3), .ref (q 4), .int (St_place v), .int (St_steps v)]), ((q 1), aI K 8 (St_registers v)), ((q 2), aI K 4 (St_floats v)), ((q 3), aI K 8 (St_stuckMask v)), ((q 4), aI K 8 (St_stuckOnes v))]) rfl ?_
  refine r_iconst (pc := 0) cx dX7_clear_0 ic_0 ?_
  refine r_istore_n (pc := 1) (loc' := [(1, .int (0 : Int32)), (0, .ref (q 0))]) cx dX7_clear_1 rfl (by decide) rfl ?_
  have hL2 : ∀ (k2_30 : (Nat → Int32) → (Nat → Int32) → Option (T_St)), (∀ (f4 : (Nat → Int32)) (f5 : (Nat → Int32)), k2_30 f4 f5 = some o_v → WW p l e rm_St_clear s m args below meth c D A 2 0 0 (MQ below (QV D K A (cl_St K q o_v)) args s 0 0 A) ([((q 0), ob 6 [.ref (q 1), .ref (q 2), .ref (q 3), .ref (q 4), .int (St_place v), .int (St_steps v)]), ((q 1), aI K 8 f5), ((q 2), aI K 4 f4), ((q 3), aI K 8 (St_stuckMask v)), ((q 4), aI K 8 (St_stuckOnes v))]) ([(0, .ref (q 0))]) ([]) 30) → ∀ (n2 : Nat) (x1 : Int32) (f2 : (Nat → Int32)) (f3 : (Nat → Int32)), f_St_clear_L2 k2_30 n2 x1 f2 f3 = some o_v → WW p l e rm_St_clear s m args below meth c D A 2 0 0 (MQ below (QV D K A (cl_St K q o_v)) args s 0 0 A) ([((q 0), ob 6 [.ref (q 1), .ref (q 2), .ref (q 3), .ref (q 4), .int (St_place v), .int (St_steps v)]), ((q 1), aI K 8 f3), ((q 2), aI K 4 f2), ((q 3), aI K 8 (St_stuckMask v)), ((q 4), aI K 8 (St_stuckOnes v))]) ([(0, .ref (q 0)), (1, .int x1)]) ([]) 2 := by
    intro k2_30 hk2_30 n2
    induction n2 with
    | zero => intro x1 f2 f3 hf; exact (nomatch (show (none : Option (T_St)) = some _ from hf))
    | succ n2 ih2 =>
      intro x1 f2 f3 hf
      rw [f_St_clear_L2] at hf
      refine r_iload_n (pc := 2) cx dX7_clear_2 1 rfl ?_
      refine r_bipush (pc := 3) cx dX7_clear_3 bp_8 ?_
      refine r_icmp_ge (pc := 5) (tgt := 30) cx dX7_clear_5 (by decide) (fun h6 => ?_) (fun h6 => ?_)
      · have hf := ifp h6 hf
        refine r_loc (loc' := [(0, .ref (q 0))]) [0] rfl ?_
        exact hk2_30 _ _ hf
      · have hf := ifn h6 hf
        refine r_aload_n (pc := 8) cx dX7_clear_8 0 rfl ?_
        refine r_get (pc := 9) cx cf_X7 0 0 rfl (by decide) rfl wd_311 dX7_clear_9 ?_
        refine r_iload_n (pc := 12) cx dX7_clear_12 1 rfl ?_
        refine r_iconst (pc := 13) cx dX7_clear_13 ic_0 ?_
        obtain ⟨h7, hf⟩ := chk_of hf
        obtain ⟨f8, ef8, hf⟩ := nm_of hf
        refine r_iast (pc := 14) (ws' := [((q 0), ob 6 [.ref (q 1), .ref (q 2), .ref (q 3), .ref (q 4), .int (St_place v), .int (St_steps v)]), ((q 1), aI K 8 f8), ((q 2), aI K 4 f2), ((q 3), aI K 8 (St_stuckMask v)), ((q 4), aI K 8 (St_stuckOnes v))]) cx 1 rfl h7 dX7_clear_14 ef8 rfl ?_
        refine r_aload_n (pc := 15) cx dX7_clear_15 0 rfl ?_
        refine r_get (pc := 16) cx cf_X7 0 1 rfl (by decide) rfl wd_313 dX7_clear_16 ?_
        refine r_iload_n (pc := 19) cx dX7_clear_19 1 rfl ?_
        refine r_iconst (pc := 20) cx dX7_clear_20 ic_3 ?_
        refine r_iand (pc := 21) cx dX7_clear_21 ?_
        refine r_iconst (pc := 22) cx dX7_clear_22 ic_0 ?_
        obtain ⟨f9, ef9, hf⟩ := nm_of hf
        refine r_iast (pc := 23) (ws' := [((q 0), ob 6 [.ref (q 1), .ref (q 2), .ref (q 3), .ref (q 4), .int (St_place v), .int (St_steps v)]), ((q 1), aI K 8 f8), ((q 2), aI K 4 f9), ((q 3), aI K 8 (St_stuckMask v)), ((q 4), aI K 8 (St_stuckOnes v))]) cx 2 rfl (ix_and3 _) dX7_clear_23 ef9 rfl ?_
        obtain ⟨x10, ex10, hf⟩ := nm_of hf
        refine r_iinc (pc := 24) (loc' := [(1, .int x10), (0, .ref (q 0))]) (v := x10) cx dX7_clear_24 1 rfl ((congrArg (fun z => x1 + z) ic_1).trans ex10.symm) (by decide) rfl ?_
        refine r_goto (pc := 27) (tgt := 2) cx dX7_clear_27 (by decide) ?_
        refine r_loc (loc' := [(0, .ref (q 0)), (1, .int x10)]) [1, 0] rfl ?_
        exact ih2 _ _ _ hf
  refine r_loc (loc' := [(0, .ref (q 0)), (1, .int (0 : Int32))]) [1, 0] rfl ?_
  refine hL2 _ (fun f4 f5 hf => ?_) _ _ _ _ hf
  refine r_aload_n (pc := 30) cx dX7_clear_30 0 rfl ?_
  obtain ⟨v11, hc12, hf⟩ := bd_of hf
  refine r_Vv (pc := 31) (ws' := [((q 0), ob 6 [.ref (q 1), .ref (q 2), .ref (q 3), .ref (q 4), .int (St_place v11), .int (St_steps v11)]), ((q 1), aI K 8 (St_registers v11)), ((q 2), aI K 4 (St_floats v11)), ((q 3), aI K 8 (St_stuckMask v11)), ((q 4), aI K 8 (St_stuckOnes v11))]) cx [] [] [0, 1, 2, 3, 4] (m_St_loosen l D K q (f5, f4, (St_stuckMask v), (St_stuckOnes v), (St_place v), (St_steps v)) hc12) yv_X7_loosen wd_493 ⟨rfl, rfl⟩ (by decide) rfl rfl rfl (by decide) 0 rfl rfl rfl (Nat.le_of_ble_eq_true rfl) dX7_clear_31 ?_
  refine r_aload_n (pc := 34) cx dX7_clear_34 0 rfl ?_
  refine r_iconst (pc := 35) cx dX7_clear_35 ic_0 ?_
  refine r_putI (pc := 36) (ws' := [((q 0), ob 6 [.ref (q 1), .ref (q 2), .ref (q 3), .ref (q 4), .int (0 : Int32), .int (St_steps v11)]), ((q 1), aI K 8 (St_registers v11)), ((q 2), aI K 4 (St_floats v11)), ((q 3), aI K 8 (St_stuckMask v11)), ((q 4), aI K 8 (St_stuckOnes v11))]) cx cf_X7 0 4 rfl (by decide) (Nat.le_of_ble_eq_true rfl) rfl pfd_I wd_317 dX7_clear_36 rfl ?_
  refine r_aload_n (pc := 39) cx dX7_clear_39 0 rfl ?_
  refine r_iconst (pc := 40) cx dX7_clear_40 ic_0 ?_
  refine r_putI (pc := 41) (ws' := [((q 0), ob 6 [.ref (q 1), .ref (q 2), .ref (q 3), .ref (q 4), .int (0 : Int32), .int (0 : Int32)]), ((q 1), aI K 8 (St_registers v11)), ((q 2), aI K 4 (St_floats v11)), ((q 3), aI K 8 (St_stuckMask v11)), ((q 4), aI K 8 (St_stuckOnes v11))]) cx cf_X7 0 5 rfl (by decide) (Nat.le_of_ble_eq_true rfl) rfl pfd_I wd_321 dX7_clear_41 rfl ?_
  cases hf
  exact r_vret (pc := 44) cx rfl dX7_clear_44
theorem yv_X7_clear : YV yX7_clear cX7_clear 2 (none) 0 := ⟨⟨by decide +kernel, by decide +kernel, by decide +kernel⟩, wd_492, wd_96, wd_490, wd_491⟩
def f_St_lay (v : T_St) (a1 : Int32) (a2 : Int32) : Option (T_St) :=
  (nm (a1 &&& (7 : Int32)) fun (x1 : Int32) => (nm ((a2 &&& (((St_stuckMask v) x1.toNatClampNeg) ^^^ (-1 : Int32))) ||| ((St_stuckOnes v) x1.toNatClampNeg)) fun (x2 : Int32) => (nm (upd (St_registers v) x1.toNatClampNeg x2) fun (f3 : Nat → Int32) => (some (f3, (St_floats v), (St_stuckMask v), (St_stuckOnes v), (St_place v), (St_steps v))))))
abbrev rm_St_lay : Room := { frames := 0, cells := 0, slots := 0, locals := 0 }
set_option maxRecDepth 100000 in
set_option maxHeartbeats 4000000 in
theorem m_St_lay (l : Launch) (D : va_G) (K : Nat → ClassId) (q : Nat → Nat) (v : T_St) (a1 : Int32) (a2 : Int32) {o_v : T_St} (hf : f_St_lay v a1 a2 = some o_v) : MV l yX7_lay cX7_lay 4 (none) rm_St_lay D K [.ref (q 0), .int a1, .int a2] (cl_St K q v) (cl_St K q o_v) := by
  refine MV_of (loc0 := [(0, .ref (q 0)), (1, .int a1), (2, .int a2)]) (by decide +kernel) rfl (Nat.le_of_ble_eq_true rfl) ?_
  intro p e s m args below meth c A cx
  unfold f_St_lay at hf
  refine r_ws (ws' := [((q 0), ob 6 [.ref (q 1), .ref (q 2), .ref (q 3), .ref (q 4), .int (St_place v), .int (St_steps v)]), ((q 1), aI K 8 (St_registers v)), ((q 2), aI K 4 (St_floats v)), ((q 3), aI K 8 (St_stuckMask v)), ((q 4), aI K 8 (St_stuckOnes v))]) rfl ?_
  refine r_iload_n (pc := 0) cx dX7_lay_0 1 rfl ?_
  refine r_bipush (pc := 1) cx dX7_lay_1 bp_7 ?_
  refine r_iand (pc := 3) cx dX7_lay_3 ?_
  obtain ⟨x1, ex1, hf⟩ := nm_of hf
  refine r_nm ex1 ?_
  refine r_istore_n (pc := 4) (loc' := [(3, .int x1), (0, .ref (q 0)), (1, .int a1), (2, .int a2)]) cx dX7_lay_4 rfl (by decide) rfl ?_
  refine r_aload_n (pc := 5) cx dX7_lay_5 1 rfl ?_
  refine r_get (pc := 6) cx cf_X7 0 0 rfl (by decide) rfl wd_311 dX7_lay_6 ?_
  refine r_iload_n (pc := 9) cx dX7_lay_9 0 rfl ?_
  refine r_iload_n (pc := 10) cx dX7_lay_10 3 rfl ?_
  refine r_aload_n (pc := 11) cx dX7_lay_11 1 rfl ?_
  refine r_get (pc := 12) cx cf_X7 0 2 rfl (by decide) rfl wd_315 dX7_lay_12 ?_
  refine r_iload_n (pc := 15) cx dX7_lay_15 0 rfl ?_
  refine r_iald (pc := 16) cx 3 rfl (by rw [ex1]; exact ix_and7 _) dX7_lay_16 ?_
  refine r_iconst (pc := 17) cx dX7_lay_17 ic_m1 ?_
  refine r_ixor (pc := 18) cx dX7_lay_18 ?_
  refine r_iand (pc := 19) cx dX7_lay_19 ?_
  refine r_aload_n (pc := 20) cx dX7_lay_20 1 rfl ?_
  refine r_get (pc := 21) cx cf_X7 0 3 rfl (by decide) rfl wd_316 dX7_lay_21 ?_
  refine r_iload_n (pc := 24) cx dX7_lay_24 0 rfl ?_
  refine r_iald (pc := 25) cx 4 rfl (by rw [ex1]; exact ix_and7 _) dX7_lay_25 ?_
  refine r_ior (pc := 26) cx dX7_lay_26 ?_
  obtain ⟨x2, ex2, hf⟩ := nm_of hf
  refine r_nm ex2 ?_
  obtain ⟨f3, ef3, hf⟩ := nm_of hf
  refine r_iast (pc := 27) (ws' := [((q 0), ob 6 [.ref (q 1), .ref (q 2), .ref (q 3), .ref (q 4), .int (St_place v), .int (St_steps v)]), ((q 1), aI K 8 f3), ((q 2), aI K 4 (St_floats v)), ((q 3), aI K 8 (St_stuckMask v)), ((q 4), aI K 8 (St_stuckOnes v))]) cx 1 rfl (by rw [ex1]; exact ix_and7 _) dX7_lay_27 ef3 rfl ?_
  cases hf
  exact r_vret (pc := 28) cx rfl dX7_lay_28
theorem yv_X7_lay : YV yX7_lay cX7_lay 4 (none) 2 := ⟨⟨by decide +kernel, by decide +kernel, by decide +kernel⟩, wd_800, wd_96, wd_798, wd_799⟩
def f_St_standAs_L2 (w : T_St) (k2_41 : T_St → Option (T_St)) : Nat → Int32 → T_St → Option (T_St)
  | 0, _, _ => none
  | n2 + 1, x1, v2 =>
    (if (8 : Int32) ≤ x1 then (k2_41 v2) else (if ix x1 8 then (bd (f_St_lay v2 x1 ((St_registers w) x1.toNatClampNeg)) fun (v6 : T_St) => (nm ((St_floats w) ((x1 &&& (3 : Int32))).toNatClampNeg) fun (x8 : Int32) => (nm (upd (St_floats v6) ((x1 &&& (3 : Int32))).toNatClampNeg x8) fun (f9 : Nat → Int32) => (nm (x1 + (1 : Int32)) fun (x10 : Int32) => (f_St_standAs_L2 w k2_41 n2 x10 ((St_registers v6), f9, (St_stuckMask v6), (St_stuckOnes v6), (St_place v6), (St_steps v6))))))) else none))
def f_St_standAs (v : T_St) (w : T_St) : Option (T_St) :=
  (f_St_standAs_L2 w (fun (v3 : T_St) => (nm (St_place w) fun (x11 : Int32) => (some ((St_registers v3), (St_floats v3), (St_stuckMask v3), (St_stuckOnes v3), x11, (0 : Int32))))) LF (0 : Int32) v)
abbrev rm_St_standAs : Room := { frames := 1, cells := 0, slots := 0, locals := 23 }
set_option maxRecDepth 100000 in
set_option maxHeartbeats 4000000 in
theorem m_St_standAs (l : Launch) (D : va_G) (K : Nat → ClassId) (q : Nat → Nat) (v : T_St) (qw : Nat → Nat) (w : T_St) {o_v : T_St} (hf : f_St_standAs v w = some o_v) : MV l yX7_standAs cX7_standAs 3 (none) rm_St_standAs D K [.ref (q 0), .ref (qw 0)] (cl_St K q v ++ (cl_St K qw w)) (cl_St K q o_v ++ (cl_St K qw w)) := by
  refine MV_of (loc0 := [(0, .ref (q 0)), (1, .ref (qw 0))]) (by decide +kernel) rfl (Nat.le_of_ble_eq_true rfl) ?_
  intro p e s m args below meth c A cx
  unfold f_St_standAs at hf
  refine r_ws (ws' := [((q 0), ob 6 [.ref (q 1), .ref (q 2), .ref (q 3), .ref (q 4), .int (St_place v), .int (St_steps v)]), ((q 1), aI K 8 (St_registers v)), ((q 2), aI K 4 (St_floats v)), ((q 3), aI K 8 (St_stuckMask v)), ((q 4), aI K 8 (St_stuckOnes v)), ((qw 0), ob 6 [.ref (qw 1), .ref (qw 2), .ref (qw 3), .ref (qw 4), .int (St_place w), .int (St_steps w)]), ((qw 1), aI K 8 (St_registers w)), ((qw 2), aI K 4 (St_floats w)), ((qw 3), aI K 8 (St_stuckMask w)), ((qw 4), aI K 8 (St_stuckOnes w))]) rfl ?_
  refine r_iconst (pc := 0) cx dX7_standAs_0 ic_0 ?_
  refine r_istore_n (pc := 1) (loc' := [(2, .int (0 : Int32)), (0, .ref (q 0)), (1, .ref (qw 0))]) cx dX7_standAs_1 rfl (by decide) rfl ?_
  have hL2 : ∀ (k2_41 : T_St → Option (T_St)), (∀ (v3 : T_St), k2_41 v3 = some o_v → WW p l e rm_St_standAs s m args below meth c D A 3 0 0 (MQ below (QV D K A (cl_St K q o_v ++ (cl_St K qw w))) args s 0 0 A) ([((q 0), ob 6 [.ref (q 1), .ref (q 2), .ref (q 3), .ref (q 4), .int (St_place v3), .int (St_steps v3)]), ((q 1), aI K 8 (St_registers v3)), ((q 2), aI K 4 (St_floats v3)), ((q 3), aI K 8 (St_stuckMask v3)), ((q 4), aI K 8 (St_stuckOnes v3)), ((qw 0), ob 6 [.ref (qw 1), .ref (qw 2), .ref (qw 3), .ref (qw 4), .int (St_place w), .int (St_steps w)]), ((qw 1), aI K 8 (St_registers w)), ((qw 2), aI K 4 (St_floats w)), ((qw 3), aI K 8 (St_stuckMask w)), ((qw 4), aI K 8 (St_stuckOnes w))]) ([(0, .ref (q 0)), (1, .ref (qw 0))]) ([]) 41) → ∀ (n2 : Nat) (x1 : Int32) (v2 : T_St), f_St_standAs_L2 w k2_41 n2 x1 v2 = some o_v → WW p l e rm_St_standAs s m args below meth c D A 3 0 0 (MQ below (QV D K A (cl_St K q o_v ++ (cl_St K qw w))) args s 0 0 A) ([((q 0), ob 6 [.ref (q 1), .ref (q 2), .ref (q 3), .ref (q 4), .int (St_place v2), .int (St_steps v2)]), ((q 1), aI K 8 (St_registers v2)), ((q 2), aI K 4 (St_floats v2)), ((q 3), aI K 8 (St_stuckMask v2)), ((q 4), aI K 8 (St_stuckOnes v2)), ((qw 0), ob 6 [.ref (qw 1), .ref (qw 2), .ref (qw 3), .ref (qw 4), .int (St_place w), .int (St_steps w)]), ((qw 1), aI K 8 (St_registers w)), ((qw 2), aI K 4 (St_floats w)), ((qw 3), aI K 8 (St_stuckMask w)), ((qw 4), aI K 8 (St_stuckOnes w))]) ([(0, .ref (q 0)), (1, .ref (qw 0)), (2, .int x1)]) ([]) 2 := by
    intro k2_41 hk2_41 n2
    induction n2 with
    | zero => intro x1 v2 hf; exact (nomatch (show (none : Option (T_St)) = some _ from hf))
    | succ n2 ih2 =>
      intro x1 v2 hf
      rw [f_St_standAs_L2] at hf
      refine r_iload_n (pc := 2) cx dX7_standAs_2 2 rfl ?_
      refine r_bipush (pc := 3) cx dX7_standAs_3 bp_8 ?_
      refine r_icmp_ge (pc := 5) (tgt := 41) cx dX7_standAs_5 (by decide) (fun h4 => ?_) (fun h4 => ?_)
      · have hf := ifp h4 hf
        refine r_loc (loc' := [(0, .ref (q 0)), (1, .ref (qw 0))]) [0, 1] rfl ?_
        exact hk2_41 _ hf
      · have hf := ifn h4 hf
        refine r_aload_n (pc := 8) cx dX7_standAs_8 0 rfl ?_
        refine r_iload_n (pc := 9) cx dX7_standAs_9 2 rfl ?_
        refine r_aload_n (pc := 10) cx dX7_standAs_10 1 rfl ?_
        refine r_get (pc := 11) cx cf_X7 5 0 rfl (by decide) rfl wd_311 dX7_standAs_11 ?_
        refine r_iload_n (pc := 14) cx dX7_standAs_14 2 rfl ?_
        obtain ⟨h5, hf⟩ := chk_of hf
        refine r_iald (pc := 15) cx 6 rfl h5 dX7_standAs_15 ?_
        obtain ⟨v6, hc7, hf⟩ := bd_of hf
        refine r_Vv (pc := 16) (ws' := [((q 0), ob 6 [.ref (q 1), .ref (q 2), .ref (q 3), .ref (q 4), .int (St_place v6), .int (St_steps v6)]), ((q 1), aI K 8 (St_registers v6)), ((q 2), aI K 4 (St_floats v6)), ((q 3), aI K 8 (St_stuckMask v6)), ((q 4), aI K 8 (St_stuckOnes v6)), ((qw 0), ob 6 [.ref (qw 1), .ref (qw 2), .ref (qw 3), .ref (qw 4), .int (St_place w), .int (St_steps w)]), ((qw 1), aI K 8 (St_registers w)), ((qw 2), aI K 4 (St_floats w)), ((qw 3), aI K 8 (St_stuckMask w)), ((qw 4), aI K 8 (St_stuckOnes w))]) cx [.int x1, .int ((St_registers w) x1.toNatClampNeg)] [] [0, 1, 2, 3, 4] (m_St_lay l D K q v2 x1 ((St_registers w) x1.toNatClampNeg) hc7) yv_X7_lay wd_797 ⟨rfl, rfl⟩ (by decide) rfl rfl rfl (by decide) 0 rfl rfl rfl (Nat.le_of_ble_eq_true rfl) dX7_standAs_16 ?_
        refine r_aload_n (pc := 19) cx dX7_standAs_19 0 rfl ?_
        refine r_get (pc := 20) cx cf_X7 0 1 rfl (by decide) rfl wd_313 dX7_standAs_20 ?_
        refine r_iload_n (pc := 23) cx dX7_standAs_23 2 rfl ?_
        refine r_iconst (pc := 24) cx dX7_standAs_24 ic_3 ?_
        refine r_iand (pc := 25) cx dX7_standAs_25 ?_
        refine r_aload_n (pc := 26) cx dX7_standAs_26 1 rfl ?_
        refine r_get (pc := 27) cx cf_X7 5 1 rfl (by decide) rfl wd_313 dX7_standAs_27 ?_
        refine r_iload_n (pc := 30) cx dX7_standAs_30 2 rfl ?_
        refine r_iconst (pc := 31) cx dX7_standAs_31 ic_3 ?_
        refine r_iand (pc := 32) cx dX7_standAs_32 ?_
        refine r_iald (pc := 33) cx 7 rfl (ix_and3 _) dX7_standAs_33 ?_
        obtain ⟨x8, ex8, hf⟩ := nm_of hf
        refine r_nm ex8 ?_
        obtain ⟨f9, ef9, hf⟩ := nm_of hf
        refine r_iast (pc := 34) (ws' := [((q 0), ob 6 [.ref (q 1), .ref (q 2), .ref (q 3), .ref (q 4), .int (St_place v6), .int (St_steps v6)]), ((q 1), aI K 8 (St_registers v6)), ((q 2), aI K 4 f9), ((q 3), aI K 8 (St_stuckMask v6)), ((q 4), aI K 8 (St_stuckOnes v6)), ((qw 0), ob 6 [.ref (qw 1), .ref (qw 2), .ref (qw 3), .ref (qw 4), .int (St_place w), .int (St_steps w)]), ((qw 1), aI K 8 (St_registers w)), ((qw 2), aI K 4 (St_floats w)), ((qw 3), aI K 8 (St_stuckMask w)), ((qw 4), aI K 8 (St_stuckOnes w))]) cx 2 rfl (ix_and3 _) dX7_standAs_34 ef9 rfl ?_
        obtain ⟨x10, ex10, hf⟩ := nm_of hf
        refine r_iinc (pc := 35) (loc' := [(2, .int x10), (0, .ref (q 0)), (1, .ref (qw 0))]) (v := x10) cx dX7_standAs_35 2 rfl ((congrArg (fun z => x1 + z) ic_1).trans ex10.symm) (by decide) rfl ?_
        refine r_goto (pc := 38) (tgt := 2) cx dX7_standAs_38 (by decide) ?_
        refine r_loc (loc' := [(0, .ref (q 0)), (1, .ref (qw 0)), (2, .int x10)]) [1, 2, 0] rfl ?_
        exact ih2 _ _ hf
  refine r_loc (loc' := [(0, .ref (q 0)), (1, .ref (qw 0)), (2, .int (0 : Int32))]) [1, 2, 0] rfl ?_
  refine hL2 _ (fun v3 hf => ?_) _ _ _ hf
  refine r_aload_n (pc := 41) cx dX7_standAs_41 0 rfl ?_
  refine r_aload_n (pc := 42) cx dX7_standAs_42 1 rfl ?_
  refine r_get (pc := 43) cx cf_X7 5 4 rfl (by decide) rfl wd_317 dX7_standAs_43 ?_
  obtain ⟨x11, ex11, hf⟩ := nm_of hf
  refine r_nm ex11 ?_
  refine r_putI (pc := 46) (ws' := [((q 0), ob 6 [.ref (q 1), .ref (q 2), .ref (q 3), .ref (q 4), .int x11, .int (St_steps v3)]), ((q 1), aI K 8 (St_registers v3)), ((q 2), aI K 4 (St_floats v3)), ((q 3), aI K 8 (St_stuckMask v3)), ((q 4), aI K 8 (St_stuckOnes v3)), ((qw 0), ob 6 [.ref (qw 1), .ref (qw 2), .ref (qw 3), .ref (qw 4), .int (St_place w), .int (St_steps w)]), ((qw 1), aI K 8 (St_registers w)), ((qw 2), aI K 4 (St_floats w)), ((qw 3), aI K 8 (St_stuckMask w)), ((qw 4), aI K 8 (St_stuckOnes w))]) cx cf_X7 0 4 rfl (by decide) (Nat.le_of_ble_eq_true rfl) rfl pfd_I wd_317 dX7_standAs_46 rfl ?_
  refine r_aload_n (pc := 49) cx dX7_standAs_49 0 rfl ?_
  refine r_iconst (pc := 50) cx dX7_standAs_50 ic_0 ?_
  refine r_putI (pc := 51) (ws' := [((q 0), ob 6 [.ref (q 1), .ref (q 2), .ref (q 3), .ref (q 4), .int x11, .int (0 : Int32)]), ((q 1), aI K 8 (St_registers v3)), ((q 2), aI K 4 (St_floats v3)), ((q 3), aI K 8 (St_stuckMask v3)), ((q 4), aI K 8 (St_stuckOnes v3)), ((qw 0), ob 6 [.ref (qw 1), .ref (qw 2), .ref (qw 3), .ref (qw 4), .int (St_place w), .int (St_steps w)]), ((qw 1), aI K 8 (St_registers w)), ((qw 2), aI K 4 (St_floats w)), ((qw 3), aI K 8 (St_stuckMask w)), ((qw 4), aI K 8 (St_stuckOnes w))]) cx cf_X7 0 5 rfl (by decide) (Nat.le_of_ble_eq_true rfl) rfl pfd_I wd_321 dX7_standAs_51 rfl ?_
  cases hf
  exact r_vret (pc := 54) cx rfl dX7_standAs_54
theorem yv_X7_standAs : YV yX7_standAs cX7_standAs 3 (none) 1 := ⟨⟨by decide +kernel, by decide +kernel, by decide +kernel⟩, wd_903, wd_96, wd_901, wd_902⟩
def f_St_copyFrom (v : T_St) (w : T_St) : Option (T_St) :=
  (nm (va_cpy (St_stuckMask w) (St_stuckMask v) 0 0 8) fun (f1 : Nat → Int32) => (nm (va_cpy (St_stuckOnes w) (St_stuckOnes v) 0 0 8) fun (f2 : Nat → Int32) => (bd (f_St_standAs ((St_registers v), (St_floats v), f1, f2, (St_place v), (St_steps v)) w) fun (v3 : T_St) => (nm (St_steps w) fun (x5 : Int32) => (some ((St_registers v3), (St_floats v3), (St_stuckMask v3), (St_stuckOnes v3), (St_place v3), x5))))))
abbrev rm_St_copyFrom : Room := { frames := 2, cells := 0, slots := 0, locals := 45 }
set_option maxRecDepth 100000 in
set_option maxHeartbeats 4000000 in
theorem m_St_copyFrom (l : Launch) (D : va_G) (K : Nat → ClassId) (q : Nat → Nat) (v : T_St) (qw : Nat → Nat) (w : T_St) {o_v : T_St} (hf : f_St_copyFrom v w = some o_v) : MV l yX7_copyFrom cX7_copyFrom 2 (none) rm_St_copyFrom D K [.ref (q 0), .ref (qw 0)] (cl_St K q v ++ (cl_St K qw w)) (cl_St K q o_v ++ (cl_St K qw w)) := by
  refine MV_of (loc0 := [(0, .ref (q 0)), (1, .ref (qw 0))]) (by decide +kernel) rfl (Nat.le_of_ble_eq_true rfl) ?_
  intro p e s m args below meth c A cx
  unfold f_St_copyFrom at hf
  refine r_ws (ws' := [((q 0), ob 6 [.ref (q 1), .ref (q 2), .ref (q 3), .ref (q 4), .int (St_place v), .int (St_steps v)]), ((q 1), aI K 8 (St_registers v)), ((q 2), aI K 4 (St_floats v)), ((q 3), aI K 8 (St_stuckMask v)), ((q 4), aI K 8 (St_stuckOnes v)), ((qw 0), ob 6 [.ref (qw 1), .ref (qw 2), .ref (qw 3), .ref (qw 4), .int (St_place w), .int (St_steps w)]), ((qw 1), aI K 8 (St_registers w)), ((qw 2), aI K 4 (St_floats w)), ((qw 3), aI K 8 (St_stuckMask w)), ((qw 4), aI K 8 (St_stuckOnes w))]) rfl ?_
  refine r_aload_n (pc := 0) cx dX7_copyFrom_0 1 rfl ?_
  refine r_get (pc := 1) cx cf_X7 5 2 rfl (by decide) rfl wd_315 dX7_copyFrom_1 ?_
  refine r_iconst (pc := 4) cx dX7_copyFrom_4 ic_0 ?_
  refine r_aload_n (pc := 5) cx dX7_copyFrom_5 0 rfl ?_
  refine r_get (pc := 6) cx cf_X7 0 2 rfl (by decide) rfl wd_315 dX7_copyFrom_6 ?_
  refine r_iconst (pc := 9) cx dX7_copyFrom_9 ic_0 ?_
  refine r_bipush (pc := 10) cx dX7_copyFrom_10 bp_8 ?_
  obtain ⟨f1, ef1, hf⟩ := nm_of hf
  refine r_copyI (pc := 12) (ws' := [((q 0), ob 6 [.ref (q 1), .ref (q 2), .ref (q 3), .ref (q 4), .int (St_place v), .int (St_steps v)]), ((q 1), aI K 8 (St_registers v)), ((q 2), aI K 4 (St_floats v)), ((q 3), aI K 8 f1), ((q 4), aI K 8 (St_stuckOnes v)), ((qw 0), ob 6 [.ref (qw 1), .ref (qw 2), .ref (qw 3), .ref (qw 4), .int (St_place w), .int (St_steps w)]), ((qw 1), aI K 8 (St_registers w)), ((qw 2), aI K 4 (St_floats w)), ((qw 3), aI K 8 (St_stuckMask w)), ((qw 4), aI K 8 (St_stuckOnes w))]) cx 8 3 rfl rfl (by decide) (nn := 8) (by decide) (by decide) (by decide) ef1 wd_1049 wd_488 wd_487 wd_100 (by decide) (by decide) dX7_copyFrom_12 rfl ?_
  refine r_aload_n (pc := 15) cx dX7_copyFrom_15 1 rfl ?_
  refine r_get (pc := 16) cx cf_X7 5 3 rfl (by decide) rfl wd_316 dX7_copyFrom_16 ?_
  refine r_iconst (pc := 19) cx dX7_copyFrom_19 ic_0 ?_
  refine r_aload_n (pc := 20) cx dX7_copyFrom_20 0 rfl ?_
  refine r_get (pc := 21) cx cf_X7 0 3 rfl (by decide) rfl wd_316 dX7_copyFrom_21 ?_
  refine r_iconst (pc := 24) cx dX7_copyFrom_24 ic_0 ?_
  refine r_bipush (pc := 25) cx dX7_copyFrom_25 bp_8 ?_
  obtain ⟨f2, ef2, hf⟩ := nm_of hf
  refine r_copyI (pc := 27) (ws' := [((q 0), ob 6 [.ref (q 1), .ref (q 2), .ref (q 3), .ref (q 4), .int (St_place v), .int (St_steps v)]), ((q 1), aI K 8 (St_registers v)), ((q 2), aI K 4 (St_floats v)), ((q 3), aI K 8 f1), ((q 4), aI K 8 f2), ((qw 0), ob 6 [.ref (qw 1), .ref (qw 2), .ref (qw 3), .ref (qw 4), .int (St_place w), .int (St_steps w)]), ((qw 1), aI K 8 (St_registers w)), ((qw 2), aI K 4 (St_floats w)), ((qw 3), aI K 8 (St_stuckMask w)), ((qw 4), aI K 8 (St_stuckOnes w))]) cx 9 4 rfl rfl (by decide) (nn := 8) (by decide) (by decide) (by decide) ef2 wd_1049 wd_488 wd_487 wd_100 (by decide) (by decide) dX7_copyFrom_27 rfl ?_
  refine r_aload_n (pc := 30) cx dX7_copyFrom_30 0 rfl ?_
  refine r_aload_n (pc := 31) cx dX7_copyFrom_31 1 rfl ?_
  obtain ⟨v3, hc4, hf⟩ := bd_of hf
  refine r_Vv (pc := 32) (ws' := [((q 0), ob 6 [.ref (q 1), .ref (q 2), .ref (q 3), .ref (q 4), .int (St_place v3), .int (St_steps v3)]), ((q 1), aI K 8 (St_registers v3)), ((q 2), aI K 4 (St_floats v3)), ((q 3), aI K 8 (St_stuckMask v3)), ((q 4), aI K 8 (St_stuckOnes v3)), ((qw 0), ob 6 [.ref (qw 1), .ref (qw 2), .ref (qw 3), .ref (qw 4), .int (St_place w), .int (St_steps w)]), ((qw 1), aI K 8 (St_registers w)), ((qw 2), aI K 4 (St_floats w)), ((qw 3), aI K 8 (St_stuckMask w)), ((qw 4), aI K 8 (St_stuckOnes w))]) cx [.ref (qw 0)] [] [0, 1, 2, 3, 4, 5, 6, 7, 8, 9] (m_St_standAs l D K q ((St_registers v), (St_floats v), f1, f2, (St_place v), (St_steps v)) qw w hc4) yv_X7_standAs wd_1050 ⟨rfl, rfl⟩ (by decide) rfl rfl rfl (by decide) 0 rfl rfl rfl (Nat.le_of_ble_eq_true rfl) dX7_copyFrom_32 ?_
  refine r_aload_n (pc := 35) cx dX7_copyFrom_35 0 rfl ?_
  refine r_aload_n (pc := 36) cx dX7_copyFrom_36 1 rfl ?_
  refine r_get (pc := 37) cx cf_X7 5 5 rfl (by decide) rfl wd_321 dX7_copyFrom_37 ?_
  obtain ⟨x5, ex5, hf⟩ := nm_of hf
  refine r_nm ex5 ?_
  refine r_putI (pc := 40) (ws' := [((q 0), ob 6 [.ref (q 1), .ref (q 2), .ref (q 3), .ref (q 4), .int (St_place v3), .int x5]), ((q 1), aI K 8 (St_registers v3)), ((q 2), aI K 4 (St_floats v3)), ((q 3), aI K 8 (St_stuckMask v3)), ((q 4), aI K 8 (St_stuckOnes v3)), ((qw 0), ob 6 [.ref (qw 1), .ref (qw 2), .ref (qw 3), .ref (qw 4), .int (St_place w), .int (St_steps w)]), ((qw 1), aI K 8 (St_registers w)), ((qw 2), aI K 4 (St_floats w)), ((qw 3), aI K 8 (St_stuckMask w)), ((qw 4), aI K 8 (St_stuckOnes w))]) cx cf_X7 0 5 rfl (by decide) (Nat.le_of_ble_eq_true rfl) rfl pfd_I wd_321 dX7_copyFrom_40 rfl ?_
  cases hf
  exact r_vret (pc := 43) cx rfl dX7_copyFrom_43
theorem yv_X7_copyFrom : YV yX7_copyFrom cX7_copyFrom 2 (none) 1 := ⟨⟨by decide +kernel, by decide +kernel, by decide +kernel⟩, wd_1048, wd_96, wd_1046, wd_1047⟩
def f_St_stickBit (v : T_St) (a1 : Int32) (a2 : Int32) (a3 : Int32) : Option (T_St) :=
  (nm (a1 &&& (7 : Int32)) fun (x1 : Int32) => (nm ((1 : Int32) <<< (a2 &&& 31)) fun (x2 : Int32) => (nm (((St_stuckMask v) x1.toNatClampNeg) ||| x2) fun (x3 : Int32) => (nm (upd (St_stuckMask v) x1.toNatClampNeg x3) fun (f4 : Nat → Int32) => (nm (fun (y5 : Int32) => ((nm (upd (St_stuckOnes v) x1.toNatClampNeg y5) fun (f7 : Nat → Int32) => (bd (f_St_lay ((St_registers v), (St_floats v), f4, f7, (St_place v), (St_steps v)) x1 ((St_registers v) x1.toNatClampNeg)) fun (v8 : T_St) => (some v8))) : Option (T_St))) fun J6 => (if a3 = (0 : Int32) then (J6 (((St_stuckOnes v) x1.toNatClampNeg) &&& (x2 ^^^ (-1 : Int32)))) else (J6 (((St_stuckOnes v) x1.toNatClampNeg) ||| x2))))))))
abbrev rm_St_stickBit : Room := { frames := 1, cells := 0, slots := 0, locals := 23 }
set_option maxRecDepth 100000 in
set_option maxHeartbeats 4000000 in
theorem m_St_stickBit (l : Launch) (D : va_G) (K : Nat → ClassId) (q : Nat → Nat) (v : T_St) (a1 : Int32) (a2 : Int32) (a3 : Int32) {o_v : T_St} (hf : f_St_stickBit v a1 a2 a3 = some o_v) : MV l yX7_stickBit cX7_stickBit 6 (none) rm_St_stickBit D K [.ref (q 0), .int a1, .int a2, .int a3] (cl_St K q v) (cl_St K q o_v) := by
  refine MV_of (loc0 := [(0, .ref (q 0)), (1, .int a1), (2, .int a2), (3, .int a3)]) (by decide +kernel) rfl (Nat.le_of_ble_eq_true rfl) ?_
  intro p e s m args below meth c A cx
  unfold f_St_stickBit at hf
  refine r_ws (ws' := [((q 0), ob 6 [.ref (q 1), .ref (q 2), .ref (q 3), .ref (q 4), .int (St_place v), .int (St_steps v)]), ((q 1), aI K 8 (St_registers v)), ((q 2), aI K 4 (St_floats v)), ((q 3), aI K 8 (St_stuckMask v)), ((q 4), aI K 8 (St_stuckOnes v))]) rfl ?_
  refine r_iload_n (pc := 0) cx dX7_stickBit_0 1 rfl ?_
  refine r_bipush (pc := 1) cx dX7_stickBit_1 bp_7 ?_
  refine r_iand (pc := 3) cx dX7_stickBit_3 ?_
  obtain ⟨x1, ex1, hf⟩ := nm_of hf
  refine r_nm ex1 ?_
  refine r_istore (pc := 4) (loc' := [(4, .int x1), (0, .ref (q 0)), (1, .int a1), (2, .int a2), (3, .int a3)]) cx dX7_stickBit_4 (by decide) rfl ?_
  refine r_iconst (pc := 6) cx dX7_stickBit_6 ic_1 ?_
  refine r_iload_n (pc := 7) cx dX7_stickBit_7 3 rfl ?_
  refine r_ishl (pc := 8) cx dX7_stickBit_8 ?_
  obtain ⟨x2, ex2, hf⟩ := nm_of hf
  refine r_nm ex2 ?_
  refine r_istore (pc := 9) (loc' := [(5, .int x2), (4, .int x1), (0, .ref (q 0)), (1, .int a1), (2, .int a2), (3, .int a3)]) cx dX7_stickBit_9 (by decide) rfl ?_
  refine r_aload_n (pc := 11) cx dX7_stickBit_11 2 rfl ?_
  refine r_get (pc := 12) cx cf_X7 0 2 rfl (by decide) rfl wd_315 dX7_stickBit_12 ?_
  refine r_iload (pc := 15) cx dX7_stickBit_15 1 rfl ?_
  refine r_dup2 (pc := 17) cx dX7_stickBit_17 rfl rfl ?_
  refine r_iald (pc := 18) cx 3 rfl (by rw [ex1]; exact ix_and7 _) dX7_stickBit_18 ?_
  refine r_iload (pc := 19) cx dX7_stickBit_19 0 rfl ?_
  refine r_ior (pc := 21) cx dX7_stickBit_21 ?_
  obtain ⟨x3, ex3, hf⟩ := nm_of hf
  refine r_nm ex3 ?_
  obtain ⟨f4, ef4, hf⟩ := nm_of hf
  refine r_iast (pc := 22) (ws' := [((q 0), ob 6 [.ref (q 1), .ref (q 2), .ref (q 3), .ref (q 4), .int (St_place v), .int (St_steps v)]), ((q 1), aI K 8 (St_registers v)), ((q 2), aI K 4 (St_floats v)), ((q 3), aI K 8 f4), ((q 4), aI K 8 (St_stuckOnes v))]) cx 3 rfl (by rw [ex1]; exact ix_and7 _) dX7_stickBit_22 ef4 rfl ?_
  refine r_aload_n (pc := 23) cx dX7_stickBit_23 2 rfl ?_
  refine r_get (pc := 24) cx cf_X7 0 3 rfl (by decide) rfl wd_316 dX7_stickBit_24 ?_
  refine r_iload (pc := 27) cx dX7_stickBit_27 1 rfl ?_
  refine r_iload_n (pc := 29) cx dX7_stickBit_29 5 rfl ?_
  obtain ⟨J6, eJ6, hf⟩ := nm_of hf
  have hJ6 : ∀ (y5 : Int32), J6 y5 = some o_v → WW p l e rm_St_stickBit s m args below meth c D A 6 0 0 (MQ below (QV D K A (cl_St K q o_v)) args s 0 0 A) ([((q 0), ob 6 [.ref (q 1), .ref (q 2), .ref (q 3), .ref (q 4), .int (St_place v), .int (St_steps v)]), ((q 1), aI K 8 (St_registers v)), ((q 2), aI K 4 (St_floats v)), ((q 3), aI K 8 f4), ((q 4), aI K 8 (St_stuckOnes v))]) ([(0, .ref (q 0)), (4, .int x1)]) ([.int y5, .int x1, .ref (q 4)]) 58 := by
    intro y5 hf
    rw [eJ6] at hf
    obtain ⟨f7, ef7, hf⟩ := nm_of hf
    refine r_iast (pc := 58) (ws' := [((q 0), ob 6 [.ref (q 1), .ref (q 2), .ref (q 3), .ref (q 4), .int (St_place v), .int (St_steps v)]), ((q 1), aI K 8 (St_registers v)), ((q 2), aI K 4 (St_floats v)), ((q 3), aI K 8 f4), ((q 4), aI K 8 f7)]) cx 4 rfl (by rw [ex1]; exact ix_and7 _) dX7_stickBit_58 ef7 rfl ?_
    refine r_aload_n (pc := 59) cx dX7_stickBit_59 0 rfl ?_
    refine r_iload (pc := 60) cx dX7_stickBit_60 1 rfl ?_
    refine r_aload_n (pc := 62) cx dX7_stickBit_62 0 rfl ?_
    refine r_get (pc := 63) cx cf_X7 0 0 rfl (by decide) rfl wd_311 dX7_stickBit_63 ?_
    refine r_iload (pc := 66) cx dX7_stickBit_66 1 rfl ?_
    refine r_iald (pc := 68) cx 1 rfl (by rw [ex1]; exact ix_and7 _) dX7_stickBit_68 ?_
    obtain ⟨v8, hc9, hf⟩ := bd_of hf
    refine r_Vv (pc := 69) (ws' := [((q 0), ob 6 [.ref (q 1), .ref (q 2), .ref (q 3), .ref (q 4), .int (St_place v8), .int (St_steps v8)]), ((q 1), aI K 8 (St_registers v8)), ((q 2), aI K 4 (St_floats v8)), ((q 3), aI K 8 (St_stuckMask v8)), ((q 4), aI K 8 (St_stuckOnes v8))]) cx [.int x1, .int ((St_registers v) x1.toNatClampNeg)] [] [0, 1, 2, 3, 4] (m_St_lay l D K q ((St_registers v), (St_floats v), f4, f7, (St_place v), (St_steps v)) x1 ((St_registers v) x1.toNatClampNeg) hc9) yv_X7_lay wd_797 ⟨rfl, rfl⟩ (by decide) rfl rfl rfl (by decide) 0 rfl rfl rfl (Nat.le_of_ble_eq_true rfl) dX7_stickBit_69 ?_
    cases hf
    exact r_vret (pc := 72) cx rfl dX7_stickBit_72
  refine r_if_eq (pc := 30) (tgt := 46) cx dX7_stickBit_30 (by decide) (fun h10 => ?_) (fun h10 => ?_)
  · have hf := ifp h10 hf
    refine r_aload_n (pc := 46) cx dX7_stickBit_46 2 rfl ?_
    refine r_get (pc := 47) cx cf_X7 0 3 rfl (by decide) rfl wd_316 dX7_stickBit_47 ?_
    refine r_iload (pc := 50) cx dX7_stickBit_50 1 rfl ?_
    refine r_iald (pc := 52) cx 4 rfl (by rw [ex1]; exact ix_and7 _) dX7_stickBit_52 ?_
    refine r_iload (pc := 53) cx dX7_stickBit_53 0 rfl ?_
    refine r_iconst (pc := 55) cx dX7_stickBit_55 ic_m1 ?_
    refine r_ixor (pc := 56) cx dX7_stickBit_56 ?_
    refine r_iand (pc := 57) cx dX7_stickBit_57 ?_
    refine r_loc (loc' := [(0, .ref (q 0)), (4, .int x1)]) [2, 1] rfl ?_
    exact hJ6 _ hf
  · have hf := ifn h10 hf
    refine r_aload_n (pc := 33) cx dX7_stickBit_33 2 rfl ?_
    refine r_get (pc := 34) cx cf_X7 0 3 rfl (by decide) rfl wd_316 dX7_stickBit_34 ?_
    refine r_iload (pc := 37) cx dX7_stickBit_37 1 rfl ?_
    refine r_iald (pc := 39) cx 4 rfl (by rw [ex1]; exact ix_and7 _) dX7_stickBit_39 ?_
    refine r_iload (pc := 40) cx dX7_stickBit_40 0 rfl ?_
    refine r_ior (pc := 42) cx dX7_stickBit_42 ?_
    refine r_goto (pc := 43) (tgt := 58) cx dX7_stickBit_43 (by decide) ?_
    refine r_loc (loc' := [(0, .ref (q 0)), (4, .int x1)]) [2, 1] rfl ?_
    exact hJ6 _ hf
theorem yv_X7_stickBit : YV yX7_stickBit cX7_stickBit 6 (none) 3 := ⟨⟨by decide +kernel, by decide +kernel, by decide +kernel⟩, wd_1105, wd_96, wd_1103, wd_1104⟩
def f_St_stuckBits_L4 (v : T_St) (k4_28 : Int32 → Option (Int32)) : Nat → Int32 → Int32 → Option (Int32)
  | 0, _, _ => none
  | n4 + 1, x1, x2 =>
    (if (8 : Int32) ≤ x2 then (k4_28 x1) else (if ix x2 8 then (bd (f_J_bitCount_0f7a4 ((St_stuckMask v) x2.toNatClampNeg)) fun (r6 : Int32) => (nm (x1 + r6) fun (x8 : Int32) => (nm (x2 + (1 : Int32)) fun (x9 : Int32) => (f_St_stuckBits_L4 v k4_28 n4 x8 x9)))) else none))
def f_St_stuckBits (v : T_St) : Option (Int32) :=
  (f_St_stuckBits_L4 v (fun (x3 : Int32) => (some x3)) LF (0 : Int32) (0 : Int32))
abbrev rm_St_stuckBits : Room := { frames := 1, cells := 0, slots := 0, locals := 20 }
set_option maxRecDepth 100000 in
set_option maxHeartbeats 4000000 in
theorem m_St_stuckBits (l : Launch) (D : va_G) (K : Nat → ClassId) (q : Nat → Nat) (v : T_St) {r_ : Int32} (hf : f_St_stuckBits v = some r_) : MI l yX7_stuckBits cX7_stuckBits 3 (some .int) rm_St_stuckBits D K [.ref (q 0)] (cl_St K q v) r_ (cl_St K q v) := by
  refine MI_of (loc0 := [(0, .ref (q 0))]) (by decide +kernel) rfl (Nat.le_of_ble_eq_true rfl) ?_
  intro p e s m args below meth c A cx
  unfold f_St_stuckBits at hf
  refine r_ws (ws' := [((q 0), ob 6 [.ref (q 1), .ref (q 2), .ref (q 3), .ref (q 4), .int (St_place v), .int (St_steps v)]), ((q 1), aI K 8 (St_registers v)), ((q 2), aI K 4 (St_floats v)), ((q 3), aI K 8 (St_stuckMask v)), ((q 4), aI K 8 (St_stuckOnes v))]) rfl ?_
  refine r_iconst (pc := 0) cx dX7_stuckBits_0 ic_0 ?_
  refine r_istore_n (pc := 1) (loc' := [(1, .int (0 : Int32)), (0, .ref (q 0))]) cx dX7_stuckBits_1 rfl (by decide) rfl ?_
  refine r_iconst (pc := 2) cx dX7_stuckBits_2 ic_0 ?_
  refine r_istore_n (pc := 3) (loc' := [(2, .int (0 : Int32)), (1, .int (0 : Int32)), (0, .ref (q 0))]) cx dX7_stuckBits_3 rfl (by decide) rfl ?_
  have hL4 : ∀ (k4_28 : Int32 → Option (Int32)), (∀ (x3 : Int32), k4_28 x3 = some r_ → WW p l e rm_St_stuckBits s m args below meth c D A 3 0 0 (MQ below (QI D K A r_ (cl_St K q v)) args s 0 0 A) ([((q 0), ob 6 [.ref (q 1), .ref (q 2), .ref (q 3), .ref (q 4), .int (St_place v), .int (St_steps v)]), ((q 1), aI K 8 (St_registers v)), ((q 2), aI K 4 (St_floats v)), ((q 3), aI K 8 (St_stuckMask v)), ((q 4), aI K 8 (St_stuckOnes v))]) ([(1, .int x3)]) ([]) 28) → ∀ (n4 : Nat) (x1 : Int32) (x2 : Int32), f_St_stuckBits_L4 v k4_28 n4 x1 x2 = some r_ → WW p l e rm_St_stuckBits s m args below meth c D A 3 0 0 (MQ below (QI D K A r_ (cl_St K q v)) args s 0 0 A) ([((q 0), ob 6 [.ref (q 1), .ref (q 2), .ref (q 3), .ref (q 4), .int (St_place v), .int (St_steps v)]), ((q 1), aI K 8 (St_registers v)), ((q 2), aI K 4 (St_floats v)), ((q 3), aI K 8 (St_stuckMask v)), ((q 4), aI K 8 (St_stuckOnes v))]) ([(0, .ref (q 0)), (1, .int x1), (2, .int x2)]) ([]) 4 := by
    intro k4_28 hk4_28 n4
    induction n4 with
    | zero => intro x1 x2 hf; exact (nomatch (show (none : Option (Int32)) = some _ from hf))
    | succ n4 ih4 =>
      intro x1 x2 hf
      rw [f_St_stuckBits_L4] at hf
      refine r_iload_n (pc := 4) cx dX7_stuckBits_4 2 rfl ?_
      refine r_bipush (pc := 5) cx dX7_stuckBits_5 bp_8 ?_
      refine r_icmp_ge (pc := 7) (tgt := 28) cx dX7_stuckBits_7 (by decide) (fun h4 => ?_) (fun h4 => ?_)
      · have hf := ifp h4 hf
        refine r_loc (loc' := [(1, .int x1)]) [1] rfl ?_
        exact hk4_28 _ hf
      · have hf := ifn h4 hf
        refine r_iload_n (pc := 10) cx dX7_stuckBits_10 1 rfl ?_
        refine r_aload_n (pc := 11) cx dX7_stuckBits_11 0 rfl ?_
        refine r_get (pc := 12) cx cf_X7 0 2 rfl (by decide) rfl wd_315 dX7_stuckBits_12 ?_
        refine r_iload_n (pc := 15) cx dX7_stuckBits_15 2 rfl ?_
        obtain ⟨h5, hf⟩ := chk_of hf
        refine r_iald (pc := 16) cx 3 rfl h5 dX7_stuckBits_16 ?_
        obtain ⟨r6, hc7, hf⟩ := bd_of hf
        refine r_Si (pc := 17) (ws' := [((q 0), ob 6 [.ref (q 1), .ref (q 2), .ref (q 3), .ref (q 4), .int (St_place v), .int (St_steps v)]), ((q 1), aI K 8 (St_registers v)), ((q 2), aI K 4 (St_floats v)), ((q 3), aI K 8 (St_stuckMask v)), ((q 4), aI K 8 (St_stuckOnes v))]) cx [.int ((St_stuckMask v) x2.toNatClampNeg)] [.int x1] [] (m_J_bitCount_0f7a4 l D K ((St_stuckMask v) x2.toNatClampNeg) hc7) ys_J6_bitCount_0f7a4 wd_1118 ⟨rfl, rfl⟩ (by decide) rfl rfl rfl (by decide) rfl (Nat.le_of_ble_eq_true rfl) dX7_stuckBits_17 ?_
        refine r_iadd (pc := 20) cx dX7_stuckBits_20 ?_
        obtain ⟨x8, ex8, hf⟩ := nm_of hf
        refine r_nm ex8 ?_
        refine r_istore_n (pc := 21) (loc' := [(1, .int x8), (0, .ref (q 0)), (2, .int x2)]) cx dX7_stuckBits_21 rfl (by decide) rfl ?_
        obtain ⟨x9, ex9, hf⟩ := nm_of hf
        refine r_iinc (pc := 22) (loc' := [(2, .int x9), (1, .int x8), (0, .ref (q 0))]) (v := x9) cx dX7_stuckBits_22 2 rfl ((congrArg (fun z => x2 + z) ic_1).trans ex9.symm) (by decide) rfl ?_
        refine r_goto (pc := 25) (tgt := 4) cx dX7_stuckBits_25 (by decide) ?_
        refine r_loc (loc' := [(0, .ref (q 0)), (1, .int x8), (2, .int x9)]) [2, 1, 0] rfl ?_
        exact ih4 _ _ hf
  refine r_loc (loc' := [(0, .ref (q 0)), (1, .int (0 : Int32)), (2, .int (0 : Int32))]) [2, 1, 0] rfl ?_
  refine hL4 _ (fun x3 hf => ?_) _ _ _ hf
  refine r_iload_n (pc := 28) cx dX7_stuckBits_28 0 rfl ?_
  cases hf
  exact r_iret (pc := 29) cx rfl rfl dX7_stuckBits_29
theorem yv_X7_stuckBits : YV yX7_stuckBits cX7_stuckBits 3 (some .int) 0 := ⟨⟨by decide +kernel, by decide +kernel, by decide +kernel⟩, wd_1117, wd_96, wd_1115, wd_1116⟩
def f_St_flipRegister (v : T_St) (a1 : Int32) (a2 : Int32) : Option (Int32 × T_St) :=
  (if a1 < (0 : Int32) then (some ((0 : Int32), v)) else (if (7 : Int32) < a1 then (some ((0 : Int32), v)) else (if a2 < (0 : Int32) then (some ((0 : Int32), v)) else (if a2 ≤ (31 : Int32) then (if ix a1 8 then (bd (f_St_lay v a1 (((St_registers v) a1.toNatClampNeg) ^^^ ((1 : Int32) <<< (a2 &&& 31)))) fun (v6 : T_St) => (some ((1 : Int32), v6))) else none) else (some ((0 : Int32), v))))))
abbrev rm_St_flipRegister : Room := { frames := 1, cells := 0, slots := 0, locals := 23 }
set_option maxRecDepth 100000 in
set_option maxHeartbeats 4000000 in
theorem m_St_flipRegister (l : Launch) (D : va_G) (K : Nat → ClassId) (q : Nat → Nat) (v : T_St) (a1 : Int32) (a2 : Int32) {r_ : Int32} {o_v : T_St} (hf : f_St_flipRegister v a1 a2 = some (r_, o_v)) : MI l yX7_flipRegister cX7_flipRegister 3 (some .boolean) rm_St_flipRegister D K [.ref (q 0), .int a1, .int a2] (cl_St K q v) r_ (cl_St K q o_v) := by
  refine MI_of (loc0 := [(0, .ref (q 0)), (1, .int a1), (2, .int a2)]) (by decide +kernel) rfl (Nat.le_of_ble_eq_true rfl) ?_
  intro p e s m args below meth c A cx
  unfold f_St_flipRegister at hf
  refine r_ws (ws' := [((q 0), ob 6 [.ref (q 1), .ref (q 2), .ref (q 3), .ref (q 4), .int (St_place v), .int (St_steps v)]), ((q 1), aI K 8 (St_registers v)), ((q 2), aI K 4 (St_floats v)), ((q 3), aI K 8 (St_stuckMask v)), ((q 4), aI K 8 (St_stuckOnes v))]) rfl ?_
  refine r_iload_n (pc := 0) cx dX7_flipRegister_0 1 rfl ?_
  refine r_if_lt (pc := 1) (tgt := 20) cx dX7_flipRegister_1 (by decide) (fun h1 => ?_) (fun h1 => ?_)
  · have hf := ifp h1 hf
    refine r_iconst (pc := 20) cx dX7_flipRegister_20 ic_0 ?_
    cases hf
    exact r_zret (pc := 21) cx (Or.inl rfl) rfl rfl dX7_flipRegister_21
  · have hf := ifn h1 hf
    refine r_iload_n (pc := 4) cx dX7_flipRegister_4 1 rfl ?_
    refine r_bipush (pc := 5) cx dX7_flipRegister_5 bp_7 ?_
    refine r_icmp_gt (pc := 7) (tgt := 20) cx dX7_flipRegister_7 (by decide) (fun h2 => ?_) (fun h2 => ?_)
    · have hf := ifp h2 hf
      refine r_iconst (pc := 20) cx dX7_flipRegister_20 ic_0 ?_
      cases hf
      exact r_zret (pc := 21) cx (Or.inl rfl) rfl rfl dX7_flipRegister_21
    · have hf := ifn h2 hf
      refine r_iload_n (pc := 10) cx dX7_flipRegister_10 2 rfl ?_
      refine r_if_lt (pc := 11) (tgt := 20) cx dX7_flipRegister_11 (by decide) (fun h3 => ?_) (fun h3 => ?_)
      · have hf := ifp h3 hf
        refine r_iconst (pc := 20) cx dX7_flipRegister_20 ic_0 ?_
        cases hf
        exact r_zret (pc := 21) cx (Or.inl rfl) rfl rfl dX7_flipRegister_21
      · have hf := ifn h3 hf
        refine r_iload_n (pc := 14) cx dX7_flipRegister_14 2 rfl ?_
        refine r_bipush (pc := 15) cx dX7_flipRegister_15 bp_31 ?_
        refine r_icmp_le (pc := 17) (tgt := 22) cx dX7_flipRegister_17 (by decide) (fun h4 => ?_) (fun h4 => ?_)
        · have hf := ifp h4 hf
          refine r_aload_n (pc := 22) cx dX7_flipRegister_22 0 rfl ?_
          refine r_iload_n (pc := 23) cx dX7_flipRegister_23 1 rfl ?_
          refine r_aload_n (pc := 24) cx dX7_flipRegister_24 0 rfl ?_
          refine r_get (pc := 25) cx cf_X7 0 0 rfl (by decide) rfl wd_311 dX7_flipRegister_25 ?_
          refine r_iload_n (pc := 28) cx dX7_flipRegister_28 1 rfl ?_
          obtain ⟨h5, hf⟩ := chk_of hf
          refine r_iald (pc := 29) cx 1 rfl h5 dX7_flipRegister_29 ?_
          refine r_iconst (pc := 30) cx dX7_flipRegister_30 ic_1 ?_
          refine r_iload_n (pc := 31) cx dX7_flipRegister_31 2 rfl ?_
          refine r_ishl (pc := 32) cx dX7_flipRegister_32 ?_
          refine r_ixor (pc := 33) cx dX7_flipRegister_33 ?_
          obtain ⟨v6, hc7, hf⟩ := bd_of hf
          refine r_Vv (pc := 34) (ws' := [((q 0), ob 6 [.ref (q 1), .ref (q 2), .ref (q 3), .ref (q 4), .int (St_place v6), .int (St_steps v6)]), ((q 1), aI K 8 (St_registers v6)), ((q 2), aI K 4 (St_floats v6)), ((q 3), aI K 8 (St_stuckMask v6)), ((q 4), aI K 8 (St_stuckOnes v6))]) cx [.int a1, .int (((St_registers v) a1.toNatClampNeg) ^^^ ((1 : Int32) <<< (a2 &&& 31)))] [] [0, 1, 2, 3, 4] (m_St_lay l D K q v a1 (((St_registers v) a1.toNatClampNeg) ^^^ ((1 : Int32) <<< (a2 &&& 31))) hc7) yv_X7_lay wd_797 ⟨rfl, rfl⟩ (by decide) rfl rfl rfl (by decide) 0 rfl rfl rfl (Nat.le_of_ble_eq_true rfl) dX7_flipRegister_34 ?_
          refine r_iconst (pc := 37) cx dX7_flipRegister_37 ic_1 ?_
          cases hf
          exact r_zret (pc := 38) cx (Or.inr rfl) rfl rfl dX7_flipRegister_38
        · have hf := ifn h4 hf
          refine r_iconst (pc := 20) cx dX7_flipRegister_20 ic_0 ?_
          cases hf
          exact r_zret (pc := 21) cx (Or.inl rfl) rfl rfl dX7_flipRegister_21
theorem yv_X7_flipRegister : YV yX7_flipRegister cX7_flipRegister 3 (some .boolean) 2 := ⟨⟨by decide +kernel, by decide +kernel, by decide +kernel⟩, wd_932, wd_96, wd_930, wd_931⟩
def f_St_flipFloat (v : T_St) (a1 : Int32) (a2 : Int32) : Option (Int32 × T_St) :=
  (if a1 < (0 : Int32) then (some ((0 : Int32), v)) else (if (3 : Int32) < a1 then (some ((0 : Int32), v)) else (if a2 < (0 : Int32) then (some ((0 : Int32), v)) else (if a2 ≤ (31 : Int32) then (if ix a1 4 then (nm (((St_floats v) a1.toNatClampNeg) ^^^ ((1 : Int32) <<< (a2 &&& 31))) fun (x6 : Int32) => (if ix a1 4 then (nm (upd (St_floats v) a1.toNatClampNeg x6) fun (f8 : Nat → Int32) => (some ((1 : Int32), ((St_registers v), f8, (St_stuckMask v), (St_stuckOnes v), (St_place v), (St_steps v))))) else none)) else none) else (some ((0 : Int32), v))))))
abbrev rm_St_flipFloat : Room := { frames := 0, cells := 0, slots := 0, locals := 0 }
set_option maxRecDepth 100000 in
set_option maxHeartbeats 4000000 in
theorem m_St_flipFloat (l : Launch) (D : va_G) (K : Nat → ClassId) (q : Nat → Nat) (v : T_St) (a1 : Int32) (a2 : Int32) {r_ : Int32} {o_v : T_St} (hf : f_St_flipFloat v a1 a2 = some (r_, o_v)) : MI l yX7_flipFloat cX7_flipFloat 3 (some .boolean) rm_St_flipFloat D K [.ref (q 0), .int a1, .int a2] (cl_St K q v) r_ (cl_St K q o_v) := by
  refine MI_of (loc0 := [(0, .ref (q 0)), (1, .int a1), (2, .int a2)]) (by decide +kernel) rfl (Nat.le_of_ble_eq_true rfl) ?_
  intro p e s m args below meth c A cx
  unfold f_St_flipFloat at hf
  refine r_ws (ws' := [((q 0), ob 6 [.ref (q 1), .ref (q 2), .ref (q 3), .ref (q 4), .int (St_place v), .int (St_steps v)]), ((q 1), aI K 8 (St_registers v)), ((q 2), aI K 4 (St_floats v)), ((q 3), aI K 8 (St_stuckMask v)), ((q 4), aI K 8 (St_stuckOnes v))]) rfl ?_
  refine r_iload_n (pc := 0) cx dX7_flipFloat_0 1 rfl ?_
  refine r_if_lt (pc := 1) (tgt := 19) cx dX7_flipFloat_1 (by decide) (fun h1 => ?_) (fun h1 => ?_)
  · have hf := ifp h1 hf
    refine r_iconst (pc := 19) cx dX7_flipFloat_19 ic_0 ?_
    cases hf
    exact r_zret (pc := 20) cx (Or.inl rfl) rfl rfl dX7_flipFloat_20
  · have hf := ifn h1 hf
    refine r_iload_n (pc := 4) cx dX7_flipFloat_4 1 rfl ?_
    refine r_iconst (pc := 5) cx dX7_flipFloat_5 ic_3 ?_
    refine r_icmp_gt (pc := 6) (tgt := 19) cx dX7_flipFloat_6 (by decide) (fun h2 => ?_) (fun h2 => ?_)
    · have hf := ifp h2 hf
      refine r_iconst (pc := 19) cx dX7_flipFloat_19 ic_0 ?_
      cases hf
      exact r_zret (pc := 20) cx (Or.inl rfl) rfl rfl dX7_flipFloat_20
    · have hf := ifn h2 hf
      refine r_iload_n (pc := 9) cx dX7_flipFloat_9 2 rfl ?_
      refine r_if_lt (pc := 10) (tgt := 19) cx dX7_flipFloat_10 (by decide) (fun h3 => ?_) (fun h3 => ?_)
      · have hf := ifp h3 hf
        refine r_iconst (pc := 19) cx dX7_flipFloat_19 ic_0 ?_
        cases hf
        exact r_zret (pc := 20) cx (Or.inl rfl) rfl rfl dX7_flipFloat_20
      · have hf := ifn h3 hf
        refine r_iload_n (pc := 13) cx dX7_flipFloat_13 2 rfl ?_
        refine r_bipush (pc := 14) cx dX7_flipFloat_14 bp_31 ?_
        refine r_icmp_le (pc := 16) (tgt := 21) cx dX7_flipFloat_16 (by decide) (fun h4 => ?_) (fun h4 => ?_)
        · have hf := ifp h4 hf
          refine r_aload_n (pc := 21) cx dX7_flipFloat_21 0 rfl ?_
          refine r_get (pc := 22) cx cf_X7 0 1 rfl (by decide) rfl wd_313 dX7_flipFloat_22 ?_
          refine r_iload_n (pc := 25) cx dX7_flipFloat_25 1 rfl ?_
          refine r_dup2 (pc := 26) cx dX7_flipFloat_26 rfl rfl ?_
          obtain ⟨h5, hf⟩ := chk_of hf
          refine r_iald (pc := 27) cx 2 rfl h5 dX7_flipFloat_27 ?_
          refine r_iconst (pc := 28) cx dX7_flipFloat_28 ic_1 ?_
          refine r_iload_n (pc := 29) cx dX7_flipFloat_29 2 rfl ?_
          refine r_ishl (pc := 30) cx dX7_flipFloat_30 ?_
          refine r_ixor (pc := 31) cx dX7_flipFloat_31 ?_
          obtain ⟨x6, ex6, hf⟩ := nm_of hf
          refine r_nm ex6 ?_
          obtain ⟨h7, hf⟩ := chk_of hf
          obtain ⟨f8, ef8, hf⟩ := nm_of hf
          refine r_iast (pc := 32) (ws' := [((q 0), ob 6 [.ref (q 1), .ref (q 2), .ref (q 3), .ref (q 4), .int (St_place v), .int (St_steps v)]), ((q 1), aI K 8 (St_registers v)), ((q 2), aI K 4 f8), ((q 3), aI K 8 (St_stuckMask v)), ((q 4), aI K 8 (St_stuckOnes v))]) cx 2 rfl h7 dX7_flipFloat_32 ef8 rfl ?_
          refine r_iconst (pc := 33) cx dX7_flipFloat_33 ic_1 ?_
          cases hf
          exact r_zret (pc := 34) cx (Or.inr rfl) rfl rfl dX7_flipFloat_34
        · have hf := ifn h4 hf
          refine r_iconst (pc := 19) cx dX7_flipFloat_19 ic_0 ?_
          cases hf
          exact r_zret (pc := 20) cx (Or.inl rfl) rfl rfl dX7_flipFloat_20
theorem yv_X7_flipFloat : YV yX7_flipFloat cX7_flipFloat 3 (some .boolean) 2 := ⟨⟨by decide +kernel, by decide +kernel, by decide +kernel⟩, wd_936, wd_96, wd_934, wd_935⟩
def f_St_flipPlace (v : T_St) (a1 : Int32) (a2 : Int32) : Option (Int32 × T_St) :=
  (if a1 = (0 : Int32) then (if a2 < (0 : Int32) then (some ((0 : Int32), v)) else (if a2 ≤ (5 : Int32) then (nm ((St_place v) ^^^ ((1 : Int32) <<< (a2 &&& 31))) fun (x4 : Int32) => (some ((1 : Int32), ((St_registers v), (St_floats v), (St_stuckMask v), (St_stuckOnes v), x4, (St_steps v))))) else (some ((0 : Int32), v)))) else (some ((0 : Int32), v)))
abbrev rm_St_flipPlace : Room := { frames := 0, cells := 0, slots := 0, locals := 0 }
set_option maxRecDepth 100000 in
set_option maxHeartbeats 4000000 in
theorem m_St_flipPlace (l : Launch) (D : va_G) (K : Nat → ClassId) (q : Nat → Nat) (v : T_St) (a1 : Int32) (a2 : Int32) {r_ : Int32} {o_v : T_St} (hf : f_St_flipPlace v a1 a2 = some (r_, o_v)) : MI l yX7_flipPlace cX7_flipPlace 3 (some .boolean) rm_St_flipPlace D K [.ref (q 0), .int a1, .int a2] (cl_St K q v) r_ (cl_St K q o_v) := by
  refine MI_of (loc0 := [(0, .ref (q 0)), (1, .int a1), (2, .int a2)]) (by decide +kernel) rfl (Nat.le_of_ble_eq_true rfl) ?_
  intro p e s m args below meth c A cx
  unfold f_St_flipPlace at hf
  refine r_ws (ws' := [((q 0), ob 6 [.ref (q 1), .ref (q 2), .ref (q 3), .ref (q 4), .int (St_place v), .int (St_steps v)]), ((q 1), aI K 8 (St_registers v)), ((q 2), aI K 4 (St_floats v)), ((q 3), aI K 8 (St_stuckMask v)), ((q 4), aI K 8 (St_stuckOnes v))]) rfl ?_
  refine r_iload_n (pc := 0) cx dX7_flipPlace_0 1 rfl ?_
  refine r_if_ne (pc := 1) (tgt := 13) cx dX7_flipPlace_1 (by decide) (fun h1 => ?_) (fun h1 => ?_)
  · have hf := ifn h1 hf
    refine r_iconst (pc := 13) cx dX7_flipPlace_13 ic_0 ?_
    cases hf
    exact r_zret (pc := 14) cx (Or.inl rfl) rfl rfl dX7_flipPlace_14
  · have hf := ifp h1 hf
    refine r_iload_n (pc := 4) cx dX7_flipPlace_4 2 rfl ?_
    refine r_if_lt (pc := 5) (tgt := 13) cx dX7_flipPlace_5 (by decide) (fun h2 => ?_) (fun h2 => ?_)
    · have hf := ifp h2 hf
      refine r_iconst (pc := 13) cx dX7_flipPlace_13 ic_0 ?_
      cases hf
      exact r_zret (pc := 14) cx (Or.inl rfl) rfl rfl dX7_flipPlace_14
    · have hf := ifn h2 hf
      refine r_iload_n (pc := 8) cx dX7_flipPlace_8 2 rfl ?_
      refine r_iconst (pc := 9) cx dX7_flipPlace_9 ic_5 ?_
      refine r_icmp_le (pc := 10) (tgt := 15) cx dX7_flipPlace_10 (by decide) (fun h3 => ?_) (fun h3 => ?_)
      · have hf := ifp h3 hf
        refine r_aload_n (pc := 15) cx dX7_flipPlace_15 0 rfl ?_
        refine r_dup (pc := 16) cx dX7_flipPlace_16 rfl ?_
        refine r_get (pc := 17) cx cf_X7 0 4 rfl (by decide) rfl wd_317 dX7_flipPlace_17 ?_
        refine r_iconst (pc := 20) cx dX7_flipPlace_20 ic_1 ?_
        refine r_iload_n (pc := 21) cx dX7_flipPlace_21 2 rfl ?_
        refine r_ishl (pc := 22) cx dX7_flipPlace_22 ?_
        refine r_ixor (pc := 23) cx dX7_flipPlace_23 ?_
        obtain ⟨x4, ex4, hf⟩ := nm_of hf
        refine r_nm ex4 ?_
        refine r_putI (pc := 24) (ws' := [((q 0), ob 6 [.ref (q 1), .ref (q 2), .ref (q 3), .ref (q 4), .int x4, .int (St_steps v)]), ((q 1), aI K 8 (St_registers v)), ((q 2), aI K 4 (St_floats v)), ((q 3), aI K 8 (St_stuckMask v)), ((q 4), aI K 8 (St_stuckOnes v))]) cx cf_X7 0 4 rfl (by decide) (Nat.le_of_ble_eq_true rfl) rfl pfd_I wd_317 dX7_flipPlace_24 rfl ?_
        refine r_iconst (pc := 27) cx dX7_flipPlace_27 ic_1 ?_
        cases hf
        exact r_zret (pc := 28) cx (Or.inr rfl) rfl rfl dX7_flipPlace_28
      · have hf := ifn h3 hf
        refine r_iconst (pc := 13) cx dX7_flipPlace_13 ic_0 ?_
        cases hf
        exact r_zret (pc := 14) cx (Or.inl rfl) rfl rfl dX7_flipPlace_14
theorem yv_X7_flipPlace : YV yX7_flipPlace cX7_flipPlace 3 (some .boolean) 2 := ⟨⟨by decide +kernel, by decide +kernel, by decide +kernel⟩, wd_940, wd_96, wd_938, wd_939⟩
def f_St_differences_L19 (v : T_St) (w : T_St) (k19_54 : Int32 → Option (Int32)) : Nat → Int32 → Int32 → Option (Int32)
  | 0, _, _ => none
  | n19 + 1, x3, x4 =>
    (if (8 : Int32) ≤ x4 then (k19_54 x3) else (if ix x4 8 then (if ix x4 8 then (if ((St_registers v) x4.toNatClampNeg) = ((St_registers w) x4.toNatClampNeg) then (nm (x3 + (0 : Int32)) fun (x12 : Int32) => (nm (x4 + (1 : Int32)) fun (x13 : Int32) => (f_St_differences_L19 v w k19_54 n19 x12 x13))) else (nm (x3 + (1 : Int32)) fun (x10 : Int32) => (nm (x4 + (1 : Int32)) fun (x11 : Int32) => (f_St_differences_L19 v w k19_54 n19 x10 x11)))) else none) else none))
def f_St_differences_L56 (v : T_St) (w : T_St) (k56_90 : Int32 → Option (Int32)) : Nat → Int32 → Int32 → Option (Int32)
  | 0, _, _ => none
  | n56 + 1, x14, x15 =>
    (if (4 : Int32) ≤ x15 then (k56_90 x14) else (if ix x15 4 then (if ix x15 4 then (if ((St_floats v) x15.toNatClampNeg) = ((St_floats w) x15.toNatClampNeg) then (nm (x14 + (0 : Int32)) fun (x23 : Int32) => (nm (x15 + (1 : Int32)) fun (x24 : Int32) => (f_St_differences_L56 v w k56_90 n56 x23 x24))) else (nm (x14 + (1 : Int32)) fun (x21 : Int32) => (nm (x15 + (1 : Int32)) fun (x22 : Int32) => (f_St_differences_L56 v w k56_90 n56 x21 x22)))) else none) else none))
def f_St_differences (v : T_St) (w : T_St) : Option (Int32) :=
  (nm (fun (y1 : Int32) => ((f_St_differences_L19 v w (fun (x5 : Int32) => (f_St_differences_L56 v w (fun (x16 : Int32) => (some x16)) LF x5 (0 : Int32))) LF y1 (0 : Int32)) : Option (Int32))) fun J2 => (if (St_place v) = (St_place w) then (J2 (0 : Int32)) else (J2 (1 : Int32))))
abbrev rm_St_differences : Room := { frames := 0, cells := 0, slots := 0, locals := 0 }
set_option maxRecDepth 100000 in
set_option maxHeartbeats 4000000 in
theorem m_St_differences (l : Launch) (D : va_G) (K : Nat → ClassId) (q : Nat → Nat) (v : T_St) (qw : Nat → Nat) (w : T_St) {r_ : Int32} (hf : f_St_differences v w = some r_) : MI l yX7_differences cX7_differences 4 (some .int) rm_St_differences D K [.ref (q 0), .ref (qw 0)] (cl_St K q v ++ (cl_St K qw w)) r_ (cl_St K q v ++ (cl_St K qw w)) := by
  refine MI_of (loc0 := [(0, .ref (q 0)), (1, .ref (qw 0))]) (by decide +kernel) rfl (Nat.le_of_ble_eq_true rfl) ?_
  intro p e s m args below meth c A cx
  unfold f_St_differences at hf
  refine r_ws (ws' := [((q 0), ob 6 [.ref (q 1), .ref (q 2), .ref (q 3), .ref (q 4), .int (St_place v), .int (St_steps v)]), ((q 1), aI K 8 (St_registers v)), ((q 2), aI K 4 (St_floats v)), ((q 3), aI K 8 (St_stuckMask v)), ((q 4), aI K 8 (St_stuckOnes v)), ((qw 0), ob 6 [.ref (qw 1), .ref (qw 2), .ref (qw 3), .ref (qw 4), .int (St_place w), .int (St_steps w)]), ((qw 1), aI K 8 (St_registers w)), ((qw 2), aI K 4 (St_floats w)), ((qw 3), aI K 8 (St_stuckMask w)), ((qw 4), aI K 8 (St_stuckOnes w))]) rfl ?_
  refine r_aload_n (pc := 0) cx dX7_differences_0 0 rfl ?_
  refine r_get (pc := 1) cx cf_X7 0 4 rfl (by decide) rfl wd_317 dX7_differences_1 ?_
  refine r_aload_n (pc := 4) cx dX7_differences_4 1 rfl ?_
  refine r_get (pc := 5) cx cf_X7 5 4 rfl (by decide) rfl wd_317 dX7_differences_5 ?_
  obtain ⟨J2, eJ2, hf⟩ := nm_of hf
  have hJ2 : ∀ (y1 : Int32), J2 y1 = some r_ → WW p l e rm_St_differences s m args below meth c D A 4 0 0 (MQ below (QI D K A r_ (cl_St K q v ++ (cl_St K qw w))) args s 0 0 A) ([((q 0), ob 6 [.ref (q 1), .ref (q 2), .ref (q 3), .ref (q 4), .int (St_place v), .int (St_steps v)]), ((q 1), aI K 8 (St_registers v)), ((q 2), aI K 4 (St_floats v)), ((q 3), aI K 8 (St_stuckMask v)), ((q 4), aI K 8 (St_stuckOnes v)), ((qw 0), ob 6 [.ref (qw 1), .ref (qw 2), .ref (qw 3), .ref (qw 4), .int (St_place w), .int (St_steps w)]), ((qw 1), aI K 8 (St_registers w)), ((qw 2), aI K 4 (St_floats w)), ((qw 3), aI K 8 (St_stuckMask w)), ((qw 4), aI K 8 (St_stuckOnes w))]) ([(0, .ref (q 0)), (1, .ref (qw 0))]) ([.int y1]) 16 := by
    intro y1 hf
    rw [eJ2] at hf
    refine r_istore_n (pc := 16) (loc' := [(2, .int y1), (0, .ref (q 0)), (1, .ref (qw 0))]) cx dX7_differences_16 rfl (by decide) rfl ?_
    refine r_iconst (pc := 17) cx dX7_differences_17 ic_0 ?_
    refine r_istore_n (pc := 18) (loc' := [(3, .int (0 : Int32)), (2, .int y1), (0, .ref (q 0)), (1, .ref (qw 0))]) cx dX7_differences_18 rfl (by decide) rfl ?_
    have hL19 : ∀ (k19_54 : Int32 → Option (Int32)), (∀ (x5 : Int32), k19_54 x5 = some r_ → WW p l e rm_St_differences s m args below meth c D A 4 0 0 (MQ below (QI D K A r_ (cl_St K q v ++ (cl_St K qw w))) args s 0 0 A) ([((q 0), ob 6 [.ref (q 1), .ref (q 2), .ref (q 3), .ref (q 4), .int (St_place v), .int (St_steps v)]), ((q 1), aI K 8 (St_registers v)), ((q 2), aI K 4 (St_floats v)), ((q 3), aI K 8 (St_stuckMask v)), ((q 4), aI K 8 (St_stuckOnes v)), ((qw 0), ob 6 [.ref (qw 1), .ref (qw 2), .ref (qw 3), .ref (qw 4), .int (St_place w), .int (St_steps w)]), ((qw 1), aI K 8 (St_registers w)), ((qw 2), aI K 4 (St_floats w)), ((qw 3), aI K 8 (St_stuckMask w)), ((qw 4), aI K 8 (St_stuckOnes w))]) ([(0, .ref (q 0)), (1, .ref (qw 0)), (2, .int x5)]) ([]) 54) → ∀ (n19 : Nat) (x3 : Int32) (x4 : Int32), f_St_differences_L19 v w k19_54 n19 x3 x4 = some r_ → WW p l e rm_St_differences s m args below meth c D A 4 0 0 (MQ below (QI D K A r_ (cl_St K q v ++ (cl_St K qw w))) args s 0 0 A) ([((q 0), ob 6 [.ref (q 1), .ref (q 2), .ref (q 3), .ref (q 4), .int (St_place v), .int (St_steps v)]), ((q 1), aI K 8 (St_registers v)), ((q 2), aI K 4 (St_floats v)), ((q 3), aI K 8 (St_stuckMask v)), ((q 4), aI K 8 (St_stuckOnes v)), ((qw 0), ob 6 [.ref (qw 1), .ref (qw 2), .ref (qw 3), .ref (qw 4), .int (St_place w), .int (St_steps w)]), ((qw 1), aI K 8 (St_registers w)), ((qw 2), aI K 4 (St_floats w)), ((qw 3), aI K 8 (St_stuckMask w)), ((qw 4), aI K 8 (St_stuckOnes w))]) ([(0, .ref (q 0)), (1, .ref (qw 0)), (2, .int x3), (3, .int x4)]) ([]) 19 := by
      intro k19_54 hk19_54 n19
      induction n19 with
      | zero => intro x3 x4 hf; exact (nomatch (show (none : Option (Int32)) = some _ from hf))
      | succ n19 ih19 =>
        intro x3 x4 hf
        rw [f_St_differences_L19] at hf
        refine r_iload_n (pc := 19) cx dX7_differences_19 3 rfl ?_
        refine r_bipush (pc := 20) cx dX7_differences_20 bp_8 ?_
        refine r_icmp_ge (pc := 22) (tgt := 54) cx dX7_differences_22 (by decide) (fun h6 => ?_) (fun h6 => ?_)
        · have hf := ifp h6 hf
          refine r_loc (loc' := [(0, .ref (q 0)), (1, .ref (qw 0)), (2, .int x3)]) [0, 1, 2] rfl ?_
          exact hk19_54 _ hf
        · have hf := ifn h6 hf
          refine r_iload_n (pc := 25) cx dX7_differences_25 2 rfl ?_
          refine r_aload_n (pc := 26) cx dX7_differences_26 0 rfl ?_
          refine r_get (pc := 27) cx cf_X7 0 0 rfl (by decide) rfl wd_311 dX7_differences_27 ?_
          refine r_iload_n (pc := 30) cx dX7_differences_30 3 rfl ?_
          obtain ⟨h7, hf⟩ := chk_of hf
          refine r_iald (pc := 31) cx 1 rfl h7 dX7_differences_31 ?_
          refine r_aload_n (pc := 32) cx dX7_differences_32 1 rfl ?_
          refine r_get (pc := 33) cx cf_X7 5 0 rfl (by decide) rfl wd_311 dX7_differences_33 ?_
          refine r_iload_n (pc := 36) cx dX7_differences_36 3 rfl ?_
          obtain ⟨h8, hf⟩ := chk_of hf
          refine r_iald (pc := 37) cx 6 rfl h8 dX7_differences_37 ?_
          refine r_icmp_ne (pc := 38) (tgt := 45) cx dX7_differences_38 (by decide) (fun h9 => ?_) (fun h9 => ?_)
          · have hf := ifn h9 hf
            refine r_iconst (pc := 45) cx dX7_differences_45 ic_1 ?_
            refine r_iadd (pc := 46) cx dX7_differences_46 ?_
            obtain ⟨x10, ex10, hf⟩ := nm_of hf
            refine r_nm ex10 ?_
            refine r_istore_n (pc := 47) (loc' := [(2, .int x10), (0, .ref (q 0)), (1, .ref (qw 0)), (3, .int x4)]) cx dX7_differences_47 rfl (by decide) rfl ?_
            obtain ⟨x11, ex11, hf⟩ := nm_of hf
            refine r_iinc (pc := 48) (loc' := [(3, .int x11), (2, .int x10), (0, .ref (q 0)), (1, .ref (qw 0))]) (v := x11) cx dX7_differences_48 3 rfl ((congrArg (fun z => x4 + z) ic_1).trans ex11.symm) (by decide) rfl ?_
            refine r_goto (pc := 51) (tgt := 19) cx dX7_differences_51 (by decide) ?_
            refine r_loc (loc' := [(0, .ref (q 0)), (1, .ref (qw 0)), (2, .int x10), (3, .int x11)]) [2, 3, 1, 0] rfl ?_
            exact ih19 _ _ hf
          · have hf := ifp h9 hf
            refine r_iconst (pc := 41) cx dX7_differences_41 ic_0 ?_
            refine r_goto (pc := 42) (tgt := 46) cx dX7_differences_42 (by decide) ?_
            refine r_iadd (pc := 46) cx dX7_differences_46 ?_
            obtain ⟨x12, ex12, hf⟩ := nm_of hf
            refine r_nm ex12 ?_
            refine r_istore_n (pc := 47) (loc' := [(2, .int x12), (0, .ref (q 0)), (1, .ref (qw 0)), (3, .int x4)]) cx dX7_differences_47 rfl (by decide) rfl ?_
            obtain ⟨x13, ex13, hf⟩ := nm_of hf
            refine r_iinc (pc := 48) (loc' := [(3, .int x13), (2, .int x12), (0, .ref (q 0)), (1, .ref (qw 0))]) (v := x13) cx dX7_differences_48 3 rfl ((congrArg (fun z => x4 + z) ic_1).trans ex13.symm) (by decide) rfl ?_
            refine r_goto (pc := 51) (tgt := 19) cx dX7_differences_51 (by decide) ?_
            refine r_loc (loc' := [(0, .ref (q 0)), (1, .ref (qw 0)), (2, .int x12), (3, .int x13)]) [2, 3, 1, 0] rfl ?_
            exact ih19 _ _ hf
    refine r_loc (loc' := [(0, .ref (q 0)), (1, .ref (qw 0)), (2, .int y1), (3, .int (0 : Int32))]) [2, 3, 1, 0] rfl ?_
    refine hL19 _ (fun x5 hf => ?_) _ _ _ hf
    refine r_iconst (pc := 54) cx dX7_differences_54 ic_0 ?_
    refine r_istore_n (pc := 55) (loc' := [(3, .int (0 : Int32)), (0, .ref (q 0)), (1, .ref (qw 0)), (2, .int x5)]) cx dX7_differences_55 rfl (by decide) rfl ?_
    have hL56 : ∀ (k56_90 : Int32 → Option (Int32)), (∀ (x16 : Int32), k56_90 x16 = some r_ → WW p l e rm_St_differences s m args below meth c D A 4 0 0 (MQ below (QI D K A r_ (cl_St K q v ++ (cl_St K qw w))) args s 0 0 A) ([((q 0), ob 6 [.ref (q 1), .ref (q 2), .ref (q 3), .ref (q 4), .int (St_place v), .int (St_steps v)]), ((q 1), aI K 8 (St_registers v)), ((q 2), aI K 4 (St_floats v)), ((q 3), aI K 8 (St_stuckMask v)), ((q 4), aI K 8 (St_stuckOnes v)), ((qw 0), ob 6 [.ref (qw 1), .ref (qw 2), .ref (qw 3), .ref (qw 4), .int (St_place w), .int (St_steps w)]), ((qw 1), aI K 8 (St_registers w)), ((qw 2), aI K 4 (St_floats w)), ((qw 3), aI K 8 (St_stuckMask w)), ((qw 4), aI K 8 (St_stuckOnes w))]) ([(2, .int x16)]) ([]) 90) → ∀ (n56 : Nat) (x14 : Int32) (x15 : Int32), f_St_differences_L56 v w k56_90 n56 x14 x15 = some r_ → WW p l e rm_St_differences s m args below meth c D A 4 0 0 (MQ below (QI D K A r_ (cl_St K q v ++ (cl_St K qw w))) args s 0 0 A) ([((q 0), ob 6 [.ref (q 1), .ref (q 2), .ref (q 3), .ref (q 4), .int (St_place v), .int (St_steps v)]), ((q 1), aI K 8 (St_registers v)), ((q 2), aI K 4 (St_floats v)), ((q 3), aI K 8 (St_stuckMask v)), ((q 4), aI K 8 (St_stuckOnes v)), ((qw 0), ob 6 [.ref (qw 1), .ref (qw 2), .ref (qw 3), .ref (qw 4), .int (St_place w), .int (St_steps w)]), ((qw 1), aI K 8 (St_registers w)), ((qw 2), aI K 4 (St_floats w)), ((qw 3), aI K 8 (St_stuckMask w)), ((qw 4), aI K 8 (St_stuckOnes w))]) ([(0, .ref (q 0)), (1, .ref (qw 0)), (2, .int x14), (3, .int x15)]) ([]) 56 := by
      intro k56_90 hk56_90 n56
      induction n56 with
      | zero => intro x14 x15 hf; exact (nomatch (show (none : Option (Int32)) = some _ from hf))
      | succ n56 ih56 =>
        intro x14 x15 hf
        rw [f_St_differences_L56] at hf
        refine r_iload_n (pc := 56) cx dX7_differences_56 3 rfl ?_
        refine r_iconst (pc := 57) cx dX7_differences_57 ic_4 ?_
        refine r_icmp_ge (pc := 58) (tgt := 90) cx dX7_differences_58 (by decide) (fun h17 => ?_) (fun h17 => ?_)
        · have hf := ifp h17 hf
          refine r_loc (loc' := [(2, .int x14)]) [2] rfl ?_
          exact hk56_90 _ hf
        · have hf := ifn h17 hf
          refine r_iload_n (pc := 61) cx dX7_differences_61 2 rfl ?_
          refine r_aload_n (pc := 62) cx dX7_differences_62 0 rfl ?_
          refine r_get (pc := 63) cx cf_X7 0 1 rfl (by decide) rfl wd_313 dX7_differences_63 ?_
          refine r_iload_n (pc := 66) cx dX7_differences_66 3 rfl ?_
          obtain ⟨h18, hf⟩ := chk_of hf
          refine r_iald (pc := 67) cx 2 rfl h18 dX7_differences_67 ?_
          refine r_aload_n (pc := 68) cx dX7_differences_68 1 rfl ?_
          refine r_get (pc := 69) cx cf_X7 5 1 rfl (by decide) rfl wd_313 dX7_differences_69 ?_
          refine r_iload_n (pc := 72) cx dX7_differences_72 3 rfl ?_
          obtain ⟨h19, hf⟩ := chk_of hf
          refine r_iald (pc := 73) cx 7 rfl h19 dX7_differences_73 ?_
          refine r_icmp_ne (pc := 74) (tgt := 81) cx dX7_differences_74 (by decide) (fun h20 => ?_) (fun h20 => ?_)
          · have hf := ifn h20 hf
            refine r_iconst (pc := 81) cx dX7_differences_81 ic_1 ?_
            refine r_iadd (pc := 82) cx dX7_differences_82 ?_
            obtain ⟨x21, ex21, hf⟩ := nm_of hf
            refine r_nm ex21 ?_
            refine r_istore_n (pc := 83) (loc' := [(2, .int x21), (0, .ref (q 0)), (1, .ref (qw 0)), (3, .int x15)]) cx dX7_differences_83 rfl (by decide) rfl ?_
            obtain ⟨x22, ex22, hf⟩ := nm_of hf
            refine r_iinc (pc := 84) (loc' := [(3, .int x22), (2, .int x21), (0, .ref (q 0)), (1, .ref (qw 0))]) (v := x22) cx dX7_differences_84 3 rfl ((congrArg (fun z => x15 + z) ic_1).trans ex22.symm) (by decide) rfl ?_
            refine r_goto (pc := 87) (tgt := 56) cx dX7_differences_87 (by decide) ?_
            refine r_loc (loc' := [(0, .ref (q 0)), (1, .ref (qw 0)), (2, .int x21), (3, .int x22)]) [2, 3, 1, 0] rfl ?_
            exact ih56 _ _ hf
          · have hf := ifp h20 hf
            refine r_iconst (pc := 77) cx dX7_differences_77 ic_0 ?_
            refine r_goto (pc := 78) (tgt := 82) cx dX7_differences_78 (by decide) ?_
            refine r_iadd (pc := 82) cx dX7_differences_82 ?_
            obtain ⟨x23, ex23, hf⟩ := nm_of hf
            refine r_nm ex23 ?_
            refine r_istore_n (pc := 83) (loc' := [(2, .int x23), (0, .ref (q 0)), (1, .ref (qw 0)), (3, .int x15)]) cx dX7_differences_83 rfl (by decide) rfl ?_
            obtain ⟨x24, ex24, hf⟩ := nm_of hf
            refine r_iinc (pc := 84) (loc' := [(3, .int x24), (2, .int x23), (0, .ref (q 0)), (1, .ref (qw 0))]) (v := x24) cx dX7_differences_84 3 rfl ((congrArg (fun z => x15 + z) ic_1).trans ex24.symm) (by decide) rfl ?_
            refine r_goto (pc := 87) (tgt := 56) cx dX7_differences_87 (by decide) ?_
            refine r_loc (loc' := [(0, .ref (q 0)), (1, .ref (qw 0)), (2, .int x23), (3, .int x24)]) [2, 3, 1, 0] rfl ?_
            exact ih56 _ _ hf
    refine r_loc (loc' := [(0, .ref (q 0)), (1, .ref (qw 0)), (2, .int x5), (3, .int (0 : Int32))]) [1, 2, 3, 0] rfl ?_
    refine hL56 _ (fun x16 hf => ?_) _ _ _ hf
    refine r_iload_n (pc := 90) cx dX7_differences_90 0 rfl ?_
    cases hf
    exact r_iret (pc := 91) cx rfl rfl dX7_differences_91
  refine r_icmp_ne (pc := 8) (tgt := 15) cx dX7_differences_8 (by decide) (fun h25 => ?_) (fun h25 => ?_)
  · have hf := ifn h25 hf
    refine r_iconst (pc := 15) cx dX7_differences_15 ic_1 ?_
    exact hJ2 _ hf
  · have hf := ifp h25 hf
    refine r_iconst (pc := 11) cx dX7_differences_11 ic_0 ?_
    refine r_goto (pc := 12) (tgt := 16) cx dX7_differences_12 (by decide) ?_
    exact hJ2 _ hf
theorem yv_X7_differences : YV yX7_differences cX7_differences 4 (some .int) 1 := ⟨⟨by decide +kernel, by decide +kernel, by decide +kernel⟩, wd_776, wd_96, wd_774, wd_775⟩
def f_St_isHalted (v : T_St) (pr : T_Pg) : Option (Int32) :=
  (if ((Pg_code pr) (((St_place v) &&& (63 : Int32))).toNatClampNeg) = (0 : Int32) then (some (1 : Int32)) else (some (0 : Int32)))
abbrev rm_St_isHalted : Room := { frames := 0, cells := 0, slots := 0, locals := 0 }
set_option maxRecDepth 100000 in
set_option maxHeartbeats 4000000 in
theorem m_St_isHalted (l : Launch) (D : va_G) (K : Nat → ClassId) (q : Nat → Nat) (v : T_St) (g : Nat → Nat) (pr : T_Pg) {r_ : Int32} (hf : f_St_isHalted v pr = some r_) : MI l yX7_isHalted cX7_isHalted 2 (some .boolean) rm_St_isHalted D K [.ref (q 0), .ref (g 0)] (cl_St K q v ++ (cl_Pg K g pr)) r_ (cl_St K q v ++ (cl_Pg K g pr)) := by
  refine MI_of (loc0 := [(0, .ref (q 0)), (1, .ref (g 0))]) (by decide +kernel) rfl (Nat.le_of_ble_eq_true rfl) ?_
  intro p e s m args below meth c A cx
  unfold f_St_isHalted at hf
  refine r_ws (ws' := [((q 0), ob 6 [.ref (q 1), .ref (q 2), .ref (q 3), .ref (q 4), .int (St_place v), .int (St_steps v)]), ((q 1), aI K 8 (St_registers v)), ((q 2), aI K 4 (St_floats v)), ((q 3), aI K 8 (St_stuckMask v)), ((q 4), aI K 8 (St_stuckOnes v)), ((g 0), ob 3 [.ref (g 1), .ref (g 2), .ref (g 3), .ref (g 4), .ref (g 5), .ref (g 6), .ref (g 7), .ref (g 8), .int (Pg_nameCount pr), .int (Pg_size pr), .int (Pg_lines pr)]), ((g 1), aI K 64 (Pg_code pr)), ((g 2), aI K 64 (Pg_first pr)), ((g 3), aI K 64 (Pg_second pr)), ((g 4), aI K 64 (Pg_third pr)), ((g 5), aI K 8 (Pg_rules pr)), ((g 6), aI K 32 (Pg_data pr)), ((g 7), aI K 140 (Pg_names pr)), ((g 8), aI K 140 (Pg_namedPlaces pr))]) rfl ?_
  refine r_aload_n (pc := 0) cx dX7_isHalted_0 1 rfl ?_
  refine r_get (pc := 1) cx cf_X4 5 0 rfl (by decide) rfl wd_136 dX7_isHalted_1 ?_
  refine r_aload_n (pc := 4) cx dX7_isHalted_4 0 rfl ?_
  refine r_get (pc := 5) cx cf_X7 0 4 rfl (by decide) rfl wd_317 dX7_isHalted_5 ?_
  refine r_bipush (pc := 8) cx dX7_isHalted_8 bp_63 ?_
  refine r_iand (pc := 10) cx dX7_isHalted_10 ?_
  refine r_iald (pc := 11) cx 6 rfl (ix_and63 _) dX7_isHalted_11 ?_
  refine r_if_ne (pc := 12) (tgt := 19) cx dX7_isHalted_12 (by decide) (fun h1 => ?_) (fun h1 => ?_)
  · have hf := ifn h1 hf
    refine r_iconst (pc := 19) cx dX7_isHalted_19 ic_0 ?_
    cases hf
    exact r_zret (pc := 20) cx (Or.inl rfl) rfl rfl dX7_isHalted_20
  · have hf := ifp h1 hf
    refine r_iconst (pc := 15) cx dX7_isHalted_15 ic_1 ?_
    refine r_goto (pc := 16) (tgt := 20) cx dX7_isHalted_16 (by decide) ?_
    cases hf
    exact r_zret (pc := 20) cx (Or.inr rfl) rfl rfl dX7_isHalted_20
theorem yv_X7_isHalted : YV yX7_isHalted cX7_isHalted 2 (some .boolean) 1 := ⟨⟨by decide +kernel, by decide +kernel, by decide +kernel⟩, wd_907, wd_96, wd_905, wd_906⟩
def f_St_address (v : T_St) (pr : T_Pg) : Option (Int32) :=
  (nm ((St_place v) &&& (63 : Int32)) fun (x1 : Int32) => (if ((Pg_code pr) x1.toNatClampNeg) = (8 : Int32) then (some (32 : Int32)) else (some ((((St_registers v) ((((Pg_second pr) x1.toNatClampNeg) &&& (7 : Int32))).toNatClampNeg) + ((Pg_third pr) x1.toNatClampNeg)) &&& (31 : Int32)))))
abbrev rm_St_address : Room := { frames := 0, cells := 0, slots := 0, locals := 0 }
set_option maxRecDepth 100000 in
set_option maxHeartbeats 4000000 in
theorem m_St_address (l : Launch) (D : va_G) (K : Nat → ClassId) (q : Nat → Nat) (v : T_St) (g : Nat → Nat) (pr : T_Pg) {r_ : Int32} (hf : f_St_address v pr = some r_) : MI l yX7_address cX7_address 3 (some .int) rm_St_address D K [.ref (q 0), .ref (g 0)] (cl_St K q v ++ (cl_Pg K g pr)) r_ (cl_St K q v ++ (cl_Pg K g pr)) := by
  refine MI_of (loc0 := [(0, .ref (q 0)), (1, .ref (g 0))]) (by decide +kernel) rfl (Nat.le_of_ble_eq_true rfl) ?_
  intro p e s m args below meth c A cx
  unfold f_St_address at hf
  refine r_ws (ws' := [((q 0), ob 6 [.ref (q 1), .ref (q 2), .ref (q 3), .ref (q 4), .int (St_place v), .int (St_steps v)]), ((q 1), aI K 8 (St_registers v)), ((q 2), aI K 4 (St_floats v)), ((q 3), aI K 8 (St_stuckMask v)), ((q 4), aI K 8 (St_stuckOnes v)), ((g 0), ob 3 [.ref (g 1), .ref (g 2), .ref (g 3), .ref (g 4), .ref (g 5), .ref (g 6), .ref (g 7), .ref (g 8), .int (Pg_nameCount pr), .int (Pg_size pr), .int (Pg_lines pr)]), ((g 1), aI K 64 (Pg_code pr)), ((g 2), aI K 64 (Pg_first pr)), ((g 3), aI K 64 (Pg_second pr)), ((g 4), aI K 64 (Pg_third pr)), ((g 5), aI K 8 (Pg_rules pr)), ((g 6), aI K 32 (Pg_data pr)), ((g 7), aI K 140 (Pg_names pr)), ((g 8), aI K 140 (Pg_namedPlaces pr))]) rfl ?_
  refine r_aload_n (pc := 0) cx dX7_address_0 0 rfl ?_
  refine r_get (pc := 1) cx cf_X7 0 4 rfl (by decide) rfl wd_317 dX7_address_1 ?_
  refine r_bipush (pc := 4) cx dX7_address_4 bp_63 ?_
  refine r_iand (pc := 6) cx dX7_address_6 ?_
  obtain ⟨x1, ex1, hf⟩ := nm_of hf
  refine r_nm ex1 ?_
  refine r_istore_n (pc := 7) (loc' := [(2, .int x1), (0, .ref (q 0)), (1, .ref (g 0))]) cx dX7_address_7 rfl (by decide) rfl ?_
  refine r_aload_n (pc := 8) cx dX7_address_8 2 rfl ?_
  refine r_get (pc := 9) cx cf_X4 5 0 rfl (by decide) rfl wd_136 dX7_address_9 ?_
  refine r_iload_n (pc := 12) cx dX7_address_12 0 rfl ?_
  refine r_iald (pc := 13) cx 6 rfl (by rw [ex1]; exact ix_and63 _) dX7_address_13 ?_
  refine r_bipush (pc := 14) cx dX7_address_14 bp_8 ?_
  refine r_icmp_ne (pc := 16) (tgt := 22) cx dX7_address_16 (by decide) (fun h2 => ?_) (fun h2 => ?_)
  · have hf := ifn h2 hf
    refine r_aload_n (pc := 22) cx dX7_address_22 1 rfl ?_
    refine r_get (pc := 23) cx cf_X7 0 0 rfl (by decide) rfl wd_311 dX7_address_23 ?_
    refine r_aload_n (pc := 26) cx dX7_address_26 2 rfl ?_
    refine r_get (pc := 27) cx cf_X4 5 2 rfl (by decide) rfl wd_140 dX7_address_27 ?_
    refine r_iload_n (pc := 30) cx dX7_address_30 0 rfl ?_
    refine r_iald (pc := 31) cx 8 rfl (by rw [ex1]; exact ix_and63 _) dX7_address_31 ?_
    refine r_bipush (pc := 32) cx dX7_address_32 bp_7 ?_
    refine r_iand (pc := 34) cx dX7_address_34 ?_
    refine r_iald (pc := 35) cx 1 rfl (ix_and7 _) dX7_address_35 ?_
    refine r_aload_n (pc := 36) cx dX7_address_36 2 rfl ?_
    refine r_get (pc := 37) cx cf_X4 5 3 rfl (by decide) rfl wd_143 dX7_address_37 ?_
    refine r_iload_n (pc := 40) cx dX7_address_40 0 rfl ?_
    refine r_iald (pc := 41) cx 9 rfl (by rw [ex1]; exact ix_and63 _) dX7_address_41 ?_
    refine r_iadd (pc := 42) cx dX7_address_42 ?_
    refine r_bipush (pc := 43) cx dX7_address_43 bp_31 ?_
    refine r_iand (pc := 45) cx dX7_address_45 ?_
    cases hf
    exact r_iret (pc := 46) cx rfl rfl dX7_address_46
  · have hf := ifp h2 hf
    refine r_bipush (pc := 19) cx dX7_address_19 bp_32 ?_
    cases hf
    exact r_iret (pc := 21) cx rfl rfl dX7_address_21
theorem yv_X7_address : YV yX7_address cX7_address 3 (some .int) 1 := ⟨⟨by decide +kernel, by decide +kernel, by decide +kernel⟩, wd_741, wd_96, wd_739, wd_740⟩
def f_St_word (v : T_St) (pr : T_Pg) : Option (Int32) :=
  (nm (((Pg_first pr) (((St_place v) &&& (63 : Int32))).toNatClampNeg) &&& (7 : Int32)) fun (x1 : Int32) => (some ((St_registers v) x1.toNatClampNeg)))
abbrev rm_St_word : Room := { frames := 0, cells := 0, slots := 0, locals := 0 }
set_option maxRecDepth 100000 in
set_option maxHeartbeats 4000000 in
theorem m_St_word (l : Launch) (D : va_G) (K : Nat → ClassId) (q : Nat → Nat) (v : T_St) (g : Nat → Nat) (pr : T_Pg) {r_ : Int32} (hf : f_St_word v pr = some r_) : MI l yX7_word cX7_word 2 (some .int) rm_St_word D K [.ref (q 0), .ref (g 0)] (cl_St K q v ++ (cl_Pg K g pr)) r_ (cl_St K q v ++ (cl_Pg K g pr)) := by
  refine MI_of (loc0 := [(0, .ref (q 0)), (1, .ref (g 0))]) (by decide +kernel) rfl (Nat.le_of_ble_eq_true rfl) ?_
  intro p e s m args below meth c A cx
  unfold f_St_word at hf
  refine r_ws (ws' := [((q 0), ob 6 [.ref (q 1), .ref (q 2), .ref (q 3), .ref (q 4), .int (St_place v), .int (St_steps v)]), ((q 1), aI K 8 (St_registers v)), ((q 2), aI K 4 (St_floats v)), ((q 3), aI K 8 (St_stuckMask v)), ((q 4), aI K 8 (St_stuckOnes v)), ((g 0), ob 3 [.ref (g 1), .ref (g 2), .ref (g 3), .ref (g 4), .ref (g 5), .ref (g 6), .ref (g 7), .ref (g 8), .int (Pg_nameCount pr), .int (Pg_size pr), .int (Pg_lines pr)]), ((g 1), aI K 64 (Pg_code pr)), ((g 2), aI K 64 (Pg_first pr)), ((g 3), aI K 64 (Pg_second pr)), ((g 4), aI K 64 (Pg_third pr)), ((g 5), aI K 8 (Pg_rules pr)), ((g 6), aI K 32 (Pg_data pr)), ((g 7), aI K 140 (Pg_names pr)), ((g 8), aI K 140 (Pg_namedPlaces pr))]) rfl ?_
  refine r_aload_n (pc := 0) cx dX7_word_0 0 rfl ?_
  refine r_get (pc := 1) cx cf_X7 0 0 rfl (by decide) rfl wd_311 dX7_word_1 ?_
  refine r_aload_n (pc := 4) cx dX7_word_4 1 rfl ?_
  refine r_get (pc := 5) cx cf_X4 5 1 rfl (by decide) rfl wd_138 dX7_word_5 ?_
  refine r_aload_n (pc := 8) cx dX7_word_8 0 rfl ?_
  refine r_get (pc := 9) cx cf_X7 0 4 rfl (by decide) rfl wd_317 dX7_word_9 ?_
  refine r_bipush (pc := 12) cx dX7_word_12 bp_63 ?_
  refine r_iand (pc := 14) cx dX7_word_14 ?_
  refine r_iald (pc := 15) cx 7 rfl (ix_and63 _) dX7_word_15 ?_
  refine r_bipush (pc := 16) cx dX7_word_16 bp_7 ?_
  refine r_iand (pc := 18) cx dX7_word_18 ?_
  obtain ⟨x1, ex1, hf⟩ := nm_of hf
  refine r_nm ex1 ?_
  refine r_iald (pc := 19) cx 1 rfl (by rw [ex1]; exact ix_and7 _) dX7_word_19 ?_
  cases hf
  exact r_iret (pc := 20) cx rfl rfl dX7_word_20
theorem yv_X7_word : YV yX7_word cX7_word 2 (some .int) 1 := ⟨⟨by decide +kernel, by decide +kernel, by decide +kernel⟩, wd_764, wd_96, wd_762, wd_763⟩
def f_St_goesElsewhere (v : T_St) (pr : T_Pg) : Option (Int32) :=
  (nm ((St_place v) &&& (63 : Int32)) fun (x1 : Int32) => (nm ((Pg_first pr) x1.toNatClampNeg) fun (x2 : Int32) => (nm ((Pg_second pr) x1.toNatClampNeg) fun (x3 : Int32) => (nm ((Pg_code pr) x1.toNatClampNeg) fun (x4 : Int32) => (if x4 = (15 : Int32) then (if ((St_registers v) ((x2 &&& (7 : Int32))).toNatClampNeg) = (0 : Int32) then (some (1 : Int32)) else (some (0 : Int32))) else (if x4 = (16 : Int32) then (if ((St_registers v) ((x3 &&& (7 : Int32))).toNatClampNeg) ≤ ((St_registers v) ((x2 &&& (7 : Int32))).toNatClampNeg) then (some (0 : Int32)) else (some (1 : Int32))) else (if x4 = (17 : Int32) then (bd (f_Fl_isUnder ((St_floats v) ((x2 &&& (3 : Int32))).toNatClampNeg) ((St_floats v) ((x3 &&& (3 : Int32))).toNatClampNeg)) fun (r10 : Int32) => (if isB r10 then (some r10) else none)) else (some (0 : Int32)))))))))
abbrev rm_St_goesElsewhere : Room := { frames := 2, cells := 0, slots := 0, locals := 41 }
set_option maxRecDepth 100000 in
set_option maxHeartbeats 4000000 in
theorem m_St_goesElsewhere (l : Launch) (D : va_G) (K : Nat → ClassId) (q : Nat → Nat) (v : T_St) (g : Nat → Nat) (pr : T_Pg) {r_ : Int32} (hf : f_St_goesElsewhere v pr = some r_) : MI l yX7_goesElsewhere cX7_goesElsewhere 5 (some .boolean) rm_St_goesElsewhere D K [.ref (q 0), .ref (g 0)] (cl_St K q v ++ (cl_Pg K g pr)) r_ (cl_St K q v ++ (cl_Pg K g pr)) := by
  refine MI_of (loc0 := [(0, .ref (q 0)), (1, .ref (g 0))]) (by decide +kernel) rfl (Nat.le_of_ble_eq_true rfl) ?_
  intro p e s m args below meth c A cx
  unfold f_St_goesElsewhere at hf
  refine r_ws (ws' := [((q 0), ob 6 [.ref (q 1), .ref (q 2), .ref (q 3), .ref (q 4), .int (St_place v), .int (St_steps v)]), ((q 1), aI K 8 (St_registers v)), ((q 2), aI K 4 (St_floats v)), ((q 3), aI K 8 (St_stuckMask v)), ((q 4), aI K 8 (St_stuckOnes v)), ((g 0), ob 3 [.ref (g 1), .ref (g 2), .ref (g 3), .ref (g 4), .ref (g 5), .ref (g 6), .ref (g 7), .ref (g 8), .int (Pg_nameCount pr), .int (Pg_size pr), .int (Pg_lines pr)]), ((g 1), aI K 64 (Pg_code pr)), ((g 2), aI K 64 (Pg_first pr)), ((g 3), aI K 64 (Pg_second pr)), ((g 4), aI K 64 (Pg_third pr)), ((g 5), aI K 8 (Pg_rules pr)), ((g 6), aI K 32 (Pg_data pr)), ((g 7), aI K 140 (Pg_names pr)), ((g 8), aI K 140 (Pg_namedPlaces pr))]) rfl ?_
  refine r_aload_n (pc := 0) cx dX7_goesElsewhere_0 0 rfl ?_
  refine r_get (pc := 1) cx cf_X7 0 4 rfl (by decide) rfl wd_317 dX7_goesElsewhere_1 ?_
  refine r_bipush (pc := 4) cx dX7_goesElsewhere_4 bp_63 ?_
  refine r_iand (pc := 6) cx dX7_goesElsewhere_6 ?_
  obtain ⟨x1, ex1, hf⟩ := nm_of hf
  refine r_nm ex1 ?_
  refine r_istore_n (pc := 7) (loc' := [(2, .int x1), (0, .ref (q 0)), (1, .ref (g 0))]) cx dX7_goesElsewhere_7 rfl (by decide) rfl ?_
  refine r_aload_n (pc := 8) cx dX7_goesElsewhere_8 2 rfl ?_
  refine r_get (pc := 9) cx cf_X4 5 1 rfl (by decide) rfl wd_138 dX7_goesElsewhere_9 ?_
  refine r_iload_n (pc := 12) cx dX7_goesElsewhere_12 0 rfl ?_
  refine r_iald (pc := 13) cx 7 rfl (by rw [ex1]; exact ix_and63 _) dX7_goesElsewhere_13 ?_
  obtain ⟨x2, ex2, hf⟩ := nm_of hf
  refine r_nm ex2 ?_
  refine r_istore_n (pc := 14) (loc' := [(3, .int x2), (2, .int x1), (0, .ref (q 0)), (1, .ref (g 0))]) cx dX7_goesElsewhere_14 rfl (by decide) rfl ?_
  refine r_aload_n (pc := 15) cx dX7_goesElsewhere_15 3 rfl ?_
  refine r_get (pc := 16) cx cf_X4 5 2 rfl (by decide) rfl wd_140 dX7_goesElsewhere_16 ?_
  refine r_iload_n (pc := 19) cx dX7_goesElsewhere_19 1 rfl ?_
  refine r_iald (pc := 20) cx 8 rfl (by rw [ex1]; exact ix_and63 _) dX7_goesElsewhere_20 ?_
  obtain ⟨x3, ex3, hf⟩ := nm_of hf
  refine r_nm ex3 ?_
  refine r_istore (pc := 21) (loc' := [(4, .int x3), (3, .int x2), (2, .int x1), (0, .ref (q 0)), (1, .ref (g 0))]) cx dX7_goesElsewhere_21 (by decide) rfl ?_
  refine r_aload_n (pc := 23) cx dX7_goesElsewhere_23 4 rfl ?_
  refine r_get (pc := 24) cx cf_X4 5 0 rfl (by decide) rfl wd_136 dX7_goesElsewhere_24 ?_
  refine r_iload_n (pc := 27) cx dX7_goesElsewhere_27 2 rfl ?_
  refine r_iald (pc := 28) cx 6 rfl (by rw [ex1]; exact ix_and63 _) dX7_goesElsewhere_28 ?_
  obtain ⟨x4, ex4, hf⟩ := nm_of hf
  refine r_nm ex4 ?_
  by_cases h5 : x4 = (15 : Int32)
  · have hf := ifp h5 hf
    refine r_tin (pc := 29) (tgt := 56) cx (15 : Int32) h5 dX7_goesElsewhere_29 (by decide) (by decide) rfl (by decide) ?_
    refine r_aload_n (pc := 56) cx dX7_goesElsewhere_56 3 rfl ?_
    refine r_get (pc := 57) cx cf_X7 0 0 rfl (by decide) rfl wd_311 dX7_goesElsewhere_57 ?_
    refine r_iload_n (pc := 60) cx dX7_goesElsewhere_60 1 rfl ?_
    refine r_bipush (pc := 61) cx dX7_goesElsewhere_61 bp_7 ?_
    refine r_iand (pc := 63) cx dX7_goesElsewhere_63 ?_
    refine r_iald (pc := 64) cx 1 rfl (ix_and7 _) dX7_goesElsewhere_64 ?_
    refine r_if_ne (pc := 65) (tgt := 72) cx dX7_goesElsewhere_65 (by decide) (fun h6 => ?_) (fun h6 => ?_)
    · have hf := ifn h6 hf
      refine r_iconst (pc := 72) cx dX7_goesElsewhere_72 ic_0 ?_
      cases hf
      exact r_zret (pc := 73) cx (Or.inl rfl) rfl rfl dX7_goesElsewhere_73
    · have hf := ifp h6 hf
      refine r_iconst (pc := 68) cx dX7_goesElsewhere_68 ic_1 ?_
      refine r_goto (pc := 69) (tgt := 73) cx dX7_goesElsewhere_69 (by decide) ?_
      cases hf
      exact r_zret (pc := 73) cx (Or.inr rfl) rfl rfl dX7_goesElsewhere_73
  · have hf := ifn h5 hf
    by_cases h7 : x4 = (16 : Int32)
    · have hf := ifp h7 hf
      refine r_tin (pc := 29) (tgt := 74) cx (16 : Int32) h7 dX7_goesElsewhere_29 (by decide) (by decide) rfl (by decide) ?_
      refine r_aload_n (pc := 74) cx dX7_goesElsewhere_74 3 rfl ?_
      refine r_get (pc := 75) cx cf_X7 0 0 rfl (by decide) rfl wd_311 dX7_goesElsewhere_75 ?_
      refine r_iload_n (pc := 78) cx dX7_goesElsewhere_78 1 rfl ?_
      refine r_bipush (pc := 79) cx dX7_goesElsewhere_79 bp_7 ?_
      refine r_iand (pc := 81) cx dX7_goesElsewhere_81 ?_
      refine r_iald (pc := 82) cx 1 rfl (ix_and7 _) dX7_goesElsewhere_82 ?_
      refine r_aload_n (pc := 83) cx dX7_goesElsewhere_83 3 rfl ?_
      refine r_get (pc := 84) cx cf_X7 0 0 rfl (by decide) rfl wd_311 dX7_goesElsewhere_84 ?_
      refine r_iload (pc := 87) cx dX7_goesElsewhere_87 0 rfl ?_
      refine r_bipush (pc := 89) cx dX7_goesElsewhere_89 bp_7 ?_
      refine r_iand (pc := 91) cx dX7_goesElsewhere_91 ?_
      refine r_iald (pc := 92) cx 1 rfl (ix_and7 _) dX7_goesElsewhere_92 ?_
      refine r_icmp_ge (pc := 93) (tgt := 100) cx dX7_goesElsewhere_93 (by decide) (fun h8 => ?_) (fun h8 => ?_)
      · have hf := ifp h8 hf
        refine r_iconst (pc := 100) cx dX7_goesElsewhere_100 ic_0 ?_
        cases hf
        exact r_zret (pc := 101) cx (Or.inl rfl) rfl rfl dX7_goesElsewhere_101
      · have hf := ifn h8 hf
        refine r_iconst (pc := 96) cx dX7_goesElsewhere_96 ic_1 ?_
        refine r_goto (pc := 97) (tgt := 101) cx dX7_goesElsewhere_97 (by decide) ?_
        cases hf
        exact r_zret (pc := 101) cx (Or.inr rfl) rfl rfl dX7_goesElsewhere_101
    · have hf := ifn h7 hf
      by_cases h9 : x4 = (17 : Int32)
      · have hf := ifp h9 hf
        refine r_tin (pc := 29) (tgt := 102) cx (17 : Int32) h9 dX7_goesElsewhere_29 (by decide) (by decide) rfl (by decide) ?_
        refine r_aload_n (pc := 102) cx dX7_goesElsewhere_102 3 rfl ?_
        refine r_get (pc := 103) cx cf_X7 0 1 rfl (by decide) rfl wd_313 dX7_goesElsewhere_103 ?_
        refine r_iload_n (pc := 106) cx dX7_goesElsewhere_106 1 rfl ?_
        refine r_iconst (pc := 107) cx dX7_goesElsewhere_107 ic_3 ?_
        refine r_iand (pc := 108) cx dX7_goesElsewhere_108 ?_
        refine r_iald (pc := 109) cx 2 rfl (ix_and3 _) dX7_goesElsewhere_109 ?_
        refine r_aload_n (pc := 110) cx dX7_goesElsewhere_110 3 rfl ?_
        refine r_get (pc := 111) cx cf_X7 0 1 rfl (by decide) rfl wd_313 dX7_goesElsewhere_111 ?_
        refine r_iload (pc := 114) cx dX7_goesElsewhere_114 0 rfl ?_
        refine r_iconst (pc := 116) cx dX7_goesElsewhere_116 ic_3 ?_
        refine r_iand (pc := 117) cx dX7_goesElsewhere_117 ?_
        refine r_iald (pc := 118) cx 2 rfl (ix_and3 _) dX7_goesElsewhere_118 ?_
        obtain ⟨r10, hc11, hf⟩ := bd_of hf
        refine r_Si (pc := 119) (ws' := [((q 0), ob 6 [.ref (q 1), .ref (q 2), .ref (q 3), .ref (q 4), .int (St_place v), .int (St_steps v)]), ((q 1), aI K 8 (St_registers v)), ((q 2), aI K 4 (St_floats v)), ((q 3), aI K 8 (St_stuckMask v)), ((q 4), aI K 8 (St_stuckOnes v)), ((g 0), ob 3 [.ref (g 1), .ref (g 2), .ref (g 3), .ref (g 4), .ref (g 5), .ref (g 6), .ref (g 7), .ref (g 8), .int (Pg_nameCount pr), .int (Pg_size pr), .int (Pg_lines pr)]), ((g 1), aI K 64 (Pg_code pr)), ((g 2), aI K 64 (Pg_first pr)), ((g 3), aI K 64 (Pg_second pr)), ((g 4), aI K 64 (Pg_third pr)), ((g 5), aI K 8 (Pg_rules pr)), ((g 6), aI K 32 (Pg_data pr)), ((g 7), aI K 140 (Pg_names pr)), ((g 8), aI K 140 (Pg_namedPlaces pr))]) cx [.int ((St_floats v) ((x2 &&& (3 : Int32))).toNatClampNeg), .int ((St_floats v) ((x3 &&& (3 : Int32))).toNatClampNeg)] [] [] (m_Fl_isUnder l D K ((St_floats v) ((x2 &&& (3 : Int32))).toNatClampNeg) ((St_floats v) ((x3 &&& (3 : Int32))).toNatClampNeg) hc11) ys_X1_isUnder wd_750 ⟨rfl, rfl⟩ (by decide) rfl rfl rfl (by decide) rfl (Nat.le_of_ble_eq_true rfl) dX7_goesElsewhere_119 ?_
        obtain ⟨h12, hf⟩ := chk_of hf
        cases hf
        exact r_zret (pc := 122) cx h12 rfl rfl dX7_goesElsewhere_122
      · have hf := ifn h9 hf
        refine r_tout (pc := 29) (tgt := 123) cx dX7_goesElsewhere_29 (by
          have nh5 := toInt_ne h5
          have mh5 : (15 : Int32).toInt = 15 := by decide
          rw [mh5] at nh5
          have nh7 := toInt_ne h7
          have mh7 : (16 : Int32).toInt = 16 := by decide
          rw [mh7] at nh7
          have nh9 := toInt_ne h9
          have mh9 : (17 : Int32).toInt = 17 := by decide
          rw [mh9] at nh9
          omega) (by decide) ?_
        refine r_iconst (pc := 123) cx dX7_goesElsewhere_123 ic_0 ?_
        cases hf
        exact r_zret (pc := 124) cx (Or.inl rfl) rfl rfl dX7_goesElsewhere_124
theorem yv_X7_goesElsewhere : YV yX7_goesElsewhere cX7_goesElsewhere 5 (some .boolean) 1 := ⟨⟨by decide +kernel, by decide +kernel, by decide +kernel⟩, wd_749, wd_96, wd_747, wd_748⟩
def f_St_stepOn (v : T_St) : Option (T_St) :=
  (nm (((St_place v) + (1 : Int32)) &&& (63 : Int32)) fun (x1 : Int32) => (nm ((St_steps v) + (1 : Int32)) fun (x2 : Int32) => (some ((St_registers v), (St_floats v), (St_stuckMask v), (St_stuckOnes v), x1, x2))))
abbrev rm_St_stepOn : Room := { frames := 0, cells := 0, slots := 0, locals := 0 }
set_option maxRecDepth 100000 in
set_option maxHeartbeats 4000000 in
theorem m_St_stepOn (l : Launch) (D : va_G) (K : Nat → ClassId) (q : Nat → Nat) (v : T_St) {o_v : T_St} (hf : f_St_stepOn v = some o_v) : MV l yX7_stepOn cX7_stepOn 1 (none) rm_St_stepOn D K [.ref (q 0)] (cl_St K q v) (cl_St K q o_v) := by
  refine MV_of (loc0 := [(0, .ref (q 0))]) (by decide +kernel) rfl (Nat.le_of_ble_eq_true rfl) ?_
  intro p e s m args below meth c A cx
  unfold f_St_stepOn at hf
  refine r_ws (ws' := [((q 0), ob 6 [.ref (q 1), .ref (q 2), .ref (q 3), .ref (q 4), .int (St_place v), .int (St_steps v)]), ((q 1), aI K 8 (St_registers v)), ((q 2), aI K 4 (St_floats v)), ((q 3), aI K 8 (St_stuckMask v)), ((q 4), aI K 8 (St_stuckOnes v))]) rfl ?_
  refine r_aload_n (pc := 0) cx dX7_stepOn_0 0 rfl ?_
  refine r_aload_n (pc := 1) cx dX7_stepOn_1 0 rfl ?_
  refine r_get (pc := 2) cx cf_X7 0 4 rfl (by decide) rfl wd_317 dX7_stepOn_2 ?_
  refine r_iconst (pc := 5) cx dX7_stepOn_5 ic_1 ?_
  refine r_iadd (pc := 6) cx dX7_stepOn_6 ?_
  refine r_bipush (pc := 7) cx dX7_stepOn_7 bp_63 ?_
  refine r_iand (pc := 9) cx dX7_stepOn_9 ?_
  obtain ⟨x1, ex1, hf⟩ := nm_of hf
  refine r_nm ex1 ?_
  refine r_putI (pc := 10) (ws' := [((q 0), ob 6 [.ref (q 1), .ref (q 2), .ref (q 3), .ref (q 4), .int x1, .int (St_steps v)]), ((q 1), aI K 8 (St_registers v)), ((q 2), aI K 4 (St_floats v)), ((q 3), aI K 8 (St_stuckMask v)), ((q 4), aI K 8 (St_stuckOnes v))]) cx cf_X7 0 4 rfl (by decide) (Nat.le_of_ble_eq_true rfl) rfl pfd_I wd_317 dX7_stepOn_10 rfl ?_
  refine r_aload_n (pc := 13) cx dX7_stepOn_13 0 rfl ?_
  refine r_dup (pc := 14) cx dX7_stepOn_14 rfl ?_
  refine r_get (pc := 15) cx cf_X7 0 5 rfl (by decide) rfl wd_321 dX7_stepOn_15 ?_
  refine r_iconst (pc := 18) cx dX7_stepOn_18 ic_1 ?_
  refine r_iadd (pc := 19) cx dX7_stepOn_19 ?_
  obtain ⟨x2, ex2, hf⟩ := nm_of hf
  refine r_nm ex2 ?_
  refine r_putI (pc := 20) (ws' := [((q 0), ob 6 [.ref (q 1), .ref (q 2), .ref (q 3), .ref (q 4), .int x1, .int x2]), ((q 1), aI K 8 (St_registers v)), ((q 2), aI K 4 (St_floats v)), ((q 3), aI K 8 (St_stuckMask v)), ((q 4), aI K 8 (St_stuckOnes v))]) cx cf_X7 0 5 rfl (by decide) (Nat.le_of_ble_eq_true rfl) rfl pfd_I wd_321 dX7_stepOn_20 rfl ?_
  cases hf
  exact r_vret (pc := 23) cx rfl dX7_stepOn_23
theorem yv_X7_stepOn : YV yX7_stepOn cX7_stepOn 1 (none) 0 := ⟨⟨by decide +kernel, by decide +kernel, by decide +kernel⟩, wd_804, wd_96, wd_802, wd_803⟩
def f_St_stepTo (v : T_St) (pr : T_Pg) (a2 : Int32) : Option (T_St) :=
  (nm (fun (y1 : Int32) => ((nm (y1 &&& (63 : Int32)) fun (x3 : Int32) => (nm ((St_steps v) + (1 : Int32)) fun (x4 : Int32) => (some ((St_registers v), (St_floats v), (St_stuckMask v), (St_stuckOnes v), x3, x4)))) : Option (T_St))) fun J2 => (if a2 = (0 : Int32) then (J2 ((St_place v) + (1 : Int32))) else (J2 ((Pg_third pr) (((St_place v) &&& (63 : Int32))).toNatClampNeg))))
abbrev rm_St_stepTo : Room := { frames := 0, cells := 0, slots := 0, locals := 0 }
set_option maxRecDepth 100000 in
set_option maxHeartbeats 4000000 in
theorem m_St_stepTo (l : Launch) (D : va_G) (K : Nat → ClassId) (q : Nat → Nat) (v : T_St) (g : Nat → Nat) (pr : T_Pg) (a2 : Int32) {o_v : T_St} (hf : f_St_stepTo v pr a2 = some o_v) : MV l yX7_stepTo cX7_stepTo 3 (none) rm_St_stepTo D K [.ref (q 0), .ref (g 0), .int a2] (cl_St K q v ++ (cl_Pg K g pr)) (cl_St K q o_v ++ (cl_Pg K g pr)) := by
  refine MV_of (loc0 := [(0, .ref (q 0)), (1, .ref (g 0)), (2, .int a2)]) (by decide +kernel) rfl (Nat.le_of_ble_eq_true rfl) ?_
  intro p e s m args below meth c A cx
  unfold f_St_stepTo at hf
  refine r_ws (ws' := [((q 0), ob 6 [.ref (q 1), .ref (q 2), .ref (q 3), .ref (q 4), .int (St_place v), .int (St_steps v)]), ((q 1), aI K 8 (St_registers v)), ((q 2), aI K 4 (St_floats v)), ((q 3), aI K 8 (St_stuckMask v)), ((q 4), aI K 8 (St_stuckOnes v)), ((g 0), ob 3 [.ref (g 1), .ref (g 2), .ref (g 3), .ref (g 4), .ref (g 5), .ref (g 6), .ref (g 7), .ref (g 8), .int (Pg_nameCount pr), .int (Pg_size pr), .int (Pg_lines pr)]), ((g 1), aI K 64 (Pg_code pr)), ((g 2), aI K 64 (Pg_first pr)), ((g 3), aI K 64 (Pg_second pr)), ((g 4), aI K 64 (Pg_third pr)), ((g 5), aI K 8 (Pg_rules pr)), ((g 6), aI K 32 (Pg_data pr)), ((g 7), aI K 140 (Pg_names pr)), ((g 8), aI K 140 (Pg_namedPlaces pr))]) rfl ?_
  refine r_aload_n (pc := 0) cx dX7_stepTo_0 0 rfl ?_
  refine r_iload_n (pc := 1) cx dX7_stepTo_1 2 rfl ?_
  obtain ⟨J2, eJ2, hf⟩ := nm_of hf
  have hJ2 : ∀ (y1 : Int32), J2 y1 = some o_v → WW p l e rm_St_stepTo s m args below meth c D A 3 0 0 (MQ below (QV D K A (cl_St K q o_v ++ (cl_Pg K g pr))) args s 0 0 A) ([((q 0), ob 6 [.ref (q 1), .ref (q 2), .ref (q 3), .ref (q 4), .int (St_place v), .int (St_steps v)]), ((q 1), aI K 8 (St_registers v)), ((q 2), aI K 4 (St_floats v)), ((q 3), aI K 8 (St_stuckMask v)), ((q 4), aI K 8 (St_stuckOnes v)), ((g 0), ob 3 [.ref (g 1), .ref (g 2), .ref (g 3), .ref (g 4), .ref (g 5), .ref (g 6), .ref (g 7), .ref (g 8), .int (Pg_nameCount pr), .int (Pg_size pr), .int (Pg_lines pr)]), ((g 1), aI K 64 (Pg_code pr)), ((g 2), aI K 64 (Pg_first pr)), ((g 3), aI K 64 (Pg_second pr)), ((g 4), aI K 64 (Pg_third pr)), ((g 5), aI K 8 (Pg_rules pr)), ((g 6), aI K 32 (Pg_data pr)), ((g 7), aI K 140 (Pg_names pr)), ((g 8), aI K 140 (Pg_namedPlaces pr))]) ([(0, .ref (q 0))]) ([.int y1, .ref (q 0)]) 26 := by
    intro y1 hf
    rw [eJ2] at hf
    refine r_bipush (pc := 26) cx dX7_stepTo_26 bp_63 ?_
    refine r_iand (pc := 28) cx dX7_stepTo_28 ?_
    obtain ⟨x3, ex3, hf⟩ := nm_of hf
    refine r_nm ex3 ?_
    refine r_putI (pc := 29) (ws' := [((q 0), ob 6 [.ref (q 1), .ref (q 2), .ref (q 3), .ref (q 4), .int x3, .int (St_steps v)]), ((q 1), aI K 8 (St_registers v)), ((q 2), aI K 4 (St_floats v)), ((q 3), aI K 8 (St_stuckMask v)), ((q 4), aI K 8 (St_stuckOnes v)), ((g 0), ob 3 [.ref (g 1), .ref (g 2), .ref (g 3), .ref (g 4), .ref (g 5), .ref (g 6), .ref (g 7), .ref (g 8), .int (Pg_nameCount pr), .int (Pg_size pr), .int (Pg_lines pr)]), ((g 1), aI K 64 (Pg_code pr)), ((g 2), aI K 64 (Pg_first pr)), ((g 3), aI K 64 (Pg_second pr)), ((g 4), aI K 64 (Pg_third pr)), ((g 5), aI K 8 (Pg_rules pr)), ((g 6), aI K 32 (Pg_data pr)), ((g 7), aI K 140 (Pg_names pr)), ((g 8), aI K 140 (Pg_namedPlaces pr))]) cx cf_X7 0 4 rfl (by decide) (Nat.le_of_ble_eq_true rfl) rfl pfd_I wd_317 dX7_stepTo_29 rfl ?_
    refine r_aload_n (pc := 32) cx dX7_stepTo_32 0 rfl ?_
    refine r_dup (pc := 33) cx dX7_stepTo_33 rfl ?_
    refine r_get (pc := 34) cx cf_X7 0 5 rfl (by decide) rfl wd_321 dX7_stepTo_34 ?_
    refine r_iconst (pc := 37) cx dX7_stepTo_37 ic_1 ?_
    refine r_iadd (pc := 38) cx dX7_stepTo_38 ?_
    obtain ⟨x4, ex4, hf⟩ := nm_of hf
    refine r_nm ex4 ?_
    refine r_putI (pc := 39) (ws' := [((q 0), ob 6 [.ref (q 1), .ref (q 2), .ref (q 3), .ref (q 4), .int x3, .int x4]), ((q 1), aI K 8 (St_registers v)), ((q 2), aI K 4 (St_floats v)), ((q 3), aI K 8 (St_stuckMask v)), ((q 4), aI K 8 (St_stuckOnes v)), ((g 0), ob 3 [.ref (g 1), .ref (g 2), .ref (g 3), .ref (g 4), .ref (g 5), .ref (g 6), .ref (g 7), .ref (g 8), .int (Pg_nameCount pr), .int (Pg_size pr), .int (Pg_lines pr)]), ((g 1), aI K 64 (Pg_code pr)), ((g 2), aI K 64 (Pg_first pr)), ((g 3), aI K 64 (Pg_second pr)), ((g 4), aI K 64 (Pg_third pr)), ((g 5), aI K 8 (Pg_rules pr)), ((g 6), aI K 32 (Pg_data pr)), ((g 7), aI K 140 (Pg_names pr)), ((g 8), aI K 140 (Pg_namedPlaces pr))]) cx cf_X7 0 5 rfl (by decide) (Nat.le_of_ble_eq_true rfl) rfl pfd_I wd_321 dX7_stepTo_39 rfl ?_
    cases hf
    exact r_vret (pc := 42) cx rfl dX7_stepTo_42
  refine r_if_eq (pc := 2) (tgt := 20) cx dX7_stepTo_2 (by decide) (fun h5 => ?_) (fun h5 => ?_)
  · have hf := ifp h5 hf
    refine r_aload_n (pc := 20) cx dX7_stepTo_20 0 rfl ?_
    refine r_get (pc := 21) cx cf_X7 0 4 rfl (by decide) rfl wd_317 dX7_stepTo_21 ?_
    refine r_iconst (pc := 24) cx dX7_stepTo_24 ic_1 ?_
    refine r_iadd (pc := 25) cx dX7_stepTo_25 ?_
    refine r_loc (loc' := [(0, .ref (q 0))]) [0] rfl ?_
    exact hJ2 _ hf
  · have hf := ifn h5 hf
    refine r_aload_n (pc := 5) cx dX7_stepTo_5 1 rfl ?_
    refine r_get (pc := 6) cx cf_X4 5 3 rfl (by decide) rfl wd_143 dX7_stepTo_6 ?_
    refine r_aload_n (pc := 9) cx dX7_stepTo_9 0 rfl ?_
    refine r_get (pc := 10) cx cf_X7 0 4 rfl (by decide) rfl wd_317 dX7_stepTo_10 ?_
    refine r_bipush (pc := 13) cx dX7_stepTo_13 bp_63 ?_
    refine r_iand (pc := 15) cx dX7_stepTo_15 ?_
    refine r_iald (pc := 16) cx 9 rfl (ix_and63 _) dX7_stepTo_16 ?_
    refine r_goto (pc := 17) (tgt := 26) cx dX7_stepTo_17 (by decide) ?_
    refine r_loc (loc' := [(0, .ref (q 0))]) [0] rfl ?_
    exact hJ2 _ hf
theorem yv_X7_stepTo : YV yX7_stepTo cX7_stepTo 3 (none) 2 := ⟨⟨by decide +kernel, by decide +kernel, by decide +kernel⟩, wd_812, wd_96, wd_810, wd_811⟩
def f_St_stepLoading (v : T_St) (pr : T_Pg) (a2 : Int32) : Option (T_St) :=
  (bd (f_St_lay v ((Pg_first pr) (((St_place v) &&& (63 : Int32))).toNatClampNeg) a2) fun (v1 : T_St) => (bd (f_St_stepOn v1) fun (v3 : T_St) => (some v3)))
abbrev rm_St_stepLoading : Room := { frames := 1, cells := 0, slots := 0, locals := 23 }
set_option maxRecDepth 100000 in
set_option maxHeartbeats 4000000 in
theorem m_St_stepLoading (l : Launch) (D : va_G) (K : Nat → ClassId) (q : Nat → Nat) (v : T_St) (g : Nat → Nat) (pr : T_Pg) (a2 : Int32) {o_v : T_St} (hf : f_St_stepLoading v pr a2 = some o_v) : MV l yX7_stepLoading cX7_stepLoading 3 (none) rm_St_stepLoading D K [.ref (q 0), .ref (g 0), .int a2] (cl_St K q v ++ (cl_Pg K g pr)) (cl_St K q o_v ++ (cl_Pg K g pr)) := by
  refine MV_of (loc0 := [(0, .ref (q 0)), (1, .ref (g 0)), (2, .int a2)]) (by decide +kernel) rfl (Nat.le_of_ble_eq_true rfl) ?_
  intro p e s m args below meth c A cx
  unfold f_St_stepLoading at hf
  refine r_ws (ws' := [((q 0), ob 6 [.ref (q 1), .ref (q 2), .ref (q 3), .ref (q 4), .int (St_place v), .int (St_steps v)]), ((q 1), aI K 8 (St_registers v)), ((q 2), aI K 4 (St_floats v)), ((q 3), aI K 8 (St_stuckMask v)), ((q 4), aI K 8 (St_stuckOnes v)), ((g 0), ob 3 [.ref (g 1), .ref (g 2), .ref (g 3), .ref (g 4), .ref (g 5), .ref (g 6), .ref (g 7), .ref (g 8), .int (Pg_nameCount pr), .int (Pg_size pr), .int (Pg_lines pr)]), ((g 1), aI K 64 (Pg_code pr)), ((g 2), aI K 64 (Pg_first pr)), ((g 3), aI K 64 (Pg_second pr)), ((g 4), aI K 64 (Pg_third pr)), ((g 5), aI K 8 (Pg_rules pr)), ((g 6), aI K 32 (Pg_data pr)), ((g 7), aI K 140 (Pg_names pr)), ((g 8), aI K 140 (Pg_namedPlaces pr))]) rfl ?_
  refine r_aload_n (pc := 0) cx dX7_stepLoading_0 0 rfl ?_
  refine r_aload_n (pc := 1) cx dX7_stepLoading_1 1 rfl ?_
  refine r_get (pc := 2) cx cf_X4 5 1 rfl (by decide) rfl wd_138 dX7_stepLoading_2 ?_
  refine r_aload_n (pc := 5) cx dX7_stepLoading_5 0 rfl ?_
  refine r_get (pc := 6) cx cf_X7 0 4 rfl (by decide) rfl wd_317 dX7_stepLoading_6 ?_
  refine r_bipush (pc := 9) cx dX7_stepLoading_9 bp_63 ?_
  refine r_iand (pc := 11) cx dX7_stepLoading_11 ?_
  refine r_iald (pc := 12) cx 7 rfl (ix_and63 _) dX7_stepLoading_12 ?_
  refine r_iload_n (pc := 13) cx dX7_stepLoading_13 2 rfl ?_
  obtain ⟨v1, hc2, hf⟩ := bd_of hf
  refine r_Vv (pc := 14) (ws' := [((q 0), ob 6 [.ref (q 1), .ref (q 2), .ref (q 3), .ref (q 4), .int (St_place v1), .int (St_steps v1)]), ((q 1), aI K 8 (St_registers v1)), ((q 2), aI K 4 (St_floats v1)), ((q 3), aI K 8 (St_stuckMask v1)), ((q 4), aI K 8 (St_stuckOnes v1)), ((g 0), ob 3 [.ref (g 1), .ref (g 2), .ref (g 3), .ref (g 4), .ref (g 5), .ref (g 6), .ref (g 7), .ref (g 8), .int (Pg_nameCount pr), .int (Pg_size pr), .int (Pg_lines pr)]), ((g 1), aI K 64 (Pg_code pr)), ((g 2), aI K 64 (Pg_first pr)), ((g 3), aI K 64 (Pg_second pr)), ((g 4), aI K 64 (Pg_third pr)), ((g 5), aI K 8 (Pg_rules pr)), ((g 6), aI K 32 (Pg_data pr)), ((g 7), aI K 140 (Pg_names pr)), ((g 8), aI K 140 (Pg_namedPlaces pr))]) cx [.int ((Pg_first pr) (((St_place v) &&& (63 : Int32))).toNatClampNeg), .int a2] [] [0, 1, 2, 3, 4] (m_St_lay l D K q v ((Pg_first pr) (((St_place v) &&& (63 : Int32))).toNatClampNeg) a2 hc2) yv_X7_lay wd_797 ⟨rfl, rfl⟩ (by decide) rfl rfl rfl (by decide) 0 rfl rfl rfl (Nat.le_of_ble_eq_true rfl) dX7_stepLoading_14 ?_
  refine r_aload_n (pc := 17) cx dX7_stepLoading_17 0 rfl ?_
  obtain ⟨v3, hc4, hf⟩ := bd_of hf
  refine r_Vv (pc := 18) (ws' := [((q 0), ob 6 [.ref (q 1), .ref (q 2), .ref (q 3), .ref (q 4), .int (St_place v3), .int (St_steps v3)]), ((q 1), aI K 8 (St_registers v3)), ((q 2), aI K 4 (St_floats v3)), ((q 3), aI K 8 (St_stuckMask v3)), ((q 4), aI K 8 (St_stuckOnes v3)), ((g 0), ob 3 [.ref (g 1), .ref (g 2), .ref (g 3), .ref (g 4), .ref (g 5), .ref (g 6), .ref (g 7), .ref (g 8), .int (Pg_nameCount pr), .int (Pg_size pr), .int (Pg_lines pr)]), ((g 1), aI K 64 (Pg_code pr)), ((g 2), aI K 64 (Pg_first pr)), ((g 3), aI K 64 (Pg_second pr)), ((g 4), aI K 64 (Pg_third pr)), ((g 5), aI K 8 (Pg_rules pr)), ((g 6), aI K 32 (Pg_data pr)), ((g 7), aI K 140 (Pg_names pr)), ((g 8), aI K 140 (Pg_namedPlaces pr))]) cx [] [] [0, 1, 2, 3, 4] (m_St_stepOn l D K q v1 hc4) yv_X7_stepOn wd_801 ⟨rfl, rfl⟩ (by decide) rfl rfl rfl (by decide) 0 rfl rfl rfl (Nat.le_of_ble_eq_true rfl) dX7_stepLoading_18 ?_
  cases hf
  exact r_vret (pc := 21) cx rfl dX7_stepLoading_21
theorem yv_X7_stepLoading : YV yX7_stepLoading cX7_stepLoading 3 (none) 2 := ⟨⟨by decide +kernel, by decide +kernel, by decide +kernel⟩, wd_796, wd_96, wd_794, wd_795⟩
def f_St_stepWithin (v : T_St) (pr : T_Pg) : Option (T_St) :=
  (nm ((St_place v) &&& (63 : Int32)) fun (x1 : Int32) => (nm ((Pg_first pr) x1.toNatClampNeg) fun (x2 : Int32) => (nm ((Pg_second pr) x1.toNatClampNeg) fun (x3 : Int32) => (nm ((Pg_third pr) x1.toNatClampNeg) fun (x4 : Int32) => (nm ((Pg_code pr) x1.toNatClampNeg) fun (x5 : Int32) => (nm (fun (v6 : T_St) => ((if ((Pg_code pr) x1.toNatClampNeg) = (14 : Int32) then (bd (f_St_stepTo v6 pr (1 : Int32)) fun (v11 : T_St) => (some v11)) else (bd (f_St_stepTo v6 pr (0 : Int32)) fun (v9 : T_St) => (some v9))) : Option (T_St))) fun J7 => (if x5 = (1 : Int32) then (bd (f_St_lay v x2 x3) fun (v14 : T_St) => (J7 v14)) else (if x5 = (2 : Int32) then (bd (f_St_lay v x2 (((St_registers v) ((x3 &&& (7 : Int32))).toNatClampNeg) + ((St_registers v) ((x4 &&& (7 : Int32))).toNatClampNeg))) fun (v17 : T_St) => (J7 v17)) else (if x5 = (3 : Int32) then (bd (f_St_lay v x2 (((St_registers v) ((x3 &&& (7 : Int32))).toNatClampNeg) - ((St_registers v) ((x4 &&& (7 : Int32))).toNatClampNeg))) fun (v20 : T_St) => (J7 v20)) else (if x5 = (4 : Int32) then (bd (f_St_lay v x2 (((St_registers v) ((x3 &&& (7 : Int32))).toNatClampNeg) * ((St_registers v) ((x4 &&& (7 : Int32))).toNatClampNeg))) fun (v23 : T_St) => (J7 v23)) else (if x5 = (5 : Int32) then (bd (f_St_lay v x2 (((St_registers v) ((x3 &&& (7 : Int32))).toNatClampNeg) ^^^ ((St_registers v) ((x4 &&& (7 : Int32))).toNatClampNeg))) fun (v26 : T_St) => (J7 v26)) else (if x5 = (6 : Int32) then (J7 v) else (if x5 = (7 : Int32) then (J7 v) else (if x5 = (8 : Int32) then (J7 v) else (if x5 = (9 : Int32) then (bd (f_Fl_ofWhole ((St_registers v) ((x3 &&& (7 : Int32))).toNatClampNeg)) fun (r35 : Int32) => (nm (upd (St_floats v) ((x2 &&& (3 : Int32))).toNatClampNeg r35) fun (f37 : Nat → Int32) => (J7 ((St_registers v), f37, (St_stuckMask v), (St_stuckOnes v), (St_place v), (St_steps v))))) else (if x5 = (10 : Int32) then (bd (f_Fl_toWhole ((St_floats v) ((x3 &&& (3 : Int32))).toNatClampNeg)) fun (r39 : Int32) => (bd (f_St_lay v x2 r39) fun (v41 : T_St) => (J7 v41))) else (if x5 = (11 : Int32) then (bd (f_St_lay v x2 ((St_floats v) ((x3 &&& (3 : Int32))).toNatClampNeg)) fun (v44 : T_St) => (J7 v44)) else (if x5 = (12 : Int32) then (bd (f_Fl_sum ((St_floats v) ((x3 &&& (3 : Int32))).toNatClampNeg) ((St_floats v) ((x4 &&& (3 : Int32))).toNatClampNeg)) fun (r47 : Int32) => (nm (upd (St_floats v) ((x2 &&& (3 : Int32))).toNatClampNeg r47) fun (f49 : Nat → Int32) => (J7 ((St_registers v), f49, (St_stuckMask v), (St_stuckOnes v), (St_place v), (St_steps v))))) else (if x5 = (13 : Int32) then (bd (f_Fl_product ((St_floats v) ((x3 &&& (3 : Int32))).toNatClampNeg) ((St_floats v) ((x4 &&& (3 : Int32))).toNatClampNeg)) fun (r51 : Int32) => (nm (upd (St_floats v) ((x2 &&& (3 : Int32))).toNatClampNeg r51) fun (f53 : Nat → Int32) => (J7 ((St_registers v), f53, (St_stuckMask v), (St_stuckOnes v), (St_place v), (St_steps v))))) else (J7 v))))))))))))))))))))
abbrev rm_St_stepWithin : Room := { frames := 4, cells := 0, slots := 0, locals := 107 }
set_option maxRecDepth 100000 in
set_option maxHeartbeats 4000000 in
theorem m_St_stepWithin (l : Launch) (D : va_G) (K : Nat → ClassId) (q : Nat → Nat) (v : T_St) (g : Nat → Nat) (pr : T_Pg) {o_v : T_St} (hf : f_St_stepWithin v pr = some o_v) : MV l yX7_stepWithin cX7_stepWithin 6 (none) rm_St_stepWithin D K [.ref (q 0), .ref (g 0)] (cl_St K q v ++ (cl_Pg K g pr)) (cl_St K q o_v ++ (cl_Pg K g pr)) := by
  refine MV_of (loc0 := [(0, .ref (q 0)), (1, .ref (g 0))]) (by decide +kernel) rfl (Nat.le_of_ble_eq_true rfl) ?_
  intro p e s m args below meth c A cx
  unfold f_St_stepWithin at hf
  refine r_ws (ws' := [((q 0), ob 6 [.ref (q 1), .ref (q 2), .ref (q 3), .ref (q 4), .int (St_place v), .int (St_steps v)]), ((q 1), aI K 8 (St_registers v)), ((q 2), aI K 4 (St_floats v)), ((q 3), aI K 8 (St_stuckMask v)), ((q 4), aI K 8 (St_stuckOnes v)), ((g 0), ob 3 [.ref (g 1), .ref (g 2), .ref (g 3), .ref (g 4), .ref (g 5), .ref (g 6), .ref (g 7), .ref (g 8), .int (Pg_nameCount pr), .int (Pg_size pr), .int (Pg_lines pr)]), ((g 1), aI K 64 (Pg_code pr)), ((g 2), aI K 64 (Pg_first pr)), ((g 3), aI K 64 (Pg_second pr)), ((g 4), aI K 64 (Pg_third pr)), ((g 5), aI K 8 (Pg_rules pr)), ((g 6), aI K 32 (Pg_data pr)), ((g 7), aI K 140 (Pg_names pr)), ((g 8), aI K 140 (Pg_namedPlaces pr))]) rfl ?_
  refine r_aload_n (pc := 0) cx dX7_stepWithin_0 0 rfl ?_
  refine r_get (pc := 1) cx cf_X7 0 4 rfl (by decide) rfl wd_317 dX7_stepWithin_1 ?_
  refine r_bipush (pc := 4) cx dX7_stepWithin_4 bp_63 ?_
  refine r_iand (pc := 6) cx dX7_stepWithin_6 ?_
  obtain ⟨x1, ex1, hf⟩ := nm_of hf
  refine r_nm ex1 ?_
  refine r_istore_n (pc := 7) (loc' := [(2, .int x1), (0, .ref (q 0)), (1, .ref (g 0))]) cx dX7_stepWithin_7 rfl (by decide) rfl ?_
  refine r_aload_n (pc := 8) cx dX7_stepWithin_8 2 rfl ?_
  refine r_get (pc := 9) cx cf_X4 5 1 rfl (by decide) rfl wd_138 dX7_stepWithin_9 ?_
  refine r_iload_n (pc := 12) cx dX7_stepWithin_12 0 rfl ?_
  refine r_iald (pc := 13) cx 7 rfl (by rw [ex1]; exact ix_and63 _) dX7_stepWithin_13 ?_
  obtain ⟨x2, ex2, hf⟩ := nm_of hf
  refine r_nm ex2 ?_
  refine r_istore_n (pc := 14) (loc' := [(3, .int x2), (2, .int x1), (0, .ref (q 0)), (1, .ref (g 0))]) cx dX7_stepWithin_14 rfl (by decide) rfl ?_
  refine r_aload_n (pc := 15) cx dX7_stepWithin_15 3 rfl ?_
  refine r_get (pc := 16) cx cf_X4 5 2 rfl (by decide) rfl wd_140 dX7_stepWithin_16 ?_
  refine r_iload_n (pc := 19) cx dX7_stepWithin_19 1 rfl ?_
  refine r_iald (pc := 20) cx 8 rfl (by rw [ex1]; exact ix_and63 _) dX7_stepWithin_20 ?_
  obtain ⟨x3, ex3, hf⟩ := nm_of hf
  refine r_nm ex3 ?_
  refine r_istore (pc := 21) (loc' := [(4, .int x3), (3, .int x2), (2, .int x1), (0, .ref (q 0)), (1, .ref (g 0))]) cx dX7_stepWithin_21 (by decide) rfl ?_
  refine r_aload_n (pc := 23) cx dX7_stepWithin_23 4 rfl ?_
  refine r_get (pc := 24) cx cf_X4 5 3 rfl (by decide) rfl wd_143 dX7_stepWithin_24 ?_
  refine r_iload_n (pc := 27) cx dX7_stepWithin_27 2 rfl ?_
  refine r_iald (pc := 28) cx 9 rfl (by rw [ex1]; exact ix_and63 _) dX7_stepWithin_28 ?_
  obtain ⟨x4, ex4, hf⟩ := nm_of hf
  refine r_nm ex4 ?_
  refine r_istore (pc := 29) (loc' := [(5, .int x4), (4, .int x3), (3, .int x2), (2, .int x1), (0, .ref (q 0)), (1, .ref (g 0))]) cx dX7_stepWithin_29 (by decide) rfl ?_
  refine r_aload_n (pc := 31) cx dX7_stepWithin_31 5 rfl ?_
  refine r_get (pc := 32) cx cf_X4 5 0 rfl (by decide) rfl wd_136 dX7_stepWithin_32 ?_
  refine r_iload_n (pc := 35) cx dX7_stepWithin_35 3 rfl ?_
  refine r_iald (pc := 36) cx 6 rfl (by rw [ex1]; exact ix_and63 _) dX7_stepWithin_36 ?_
  obtain ⟨x5, ex5, hf⟩ := nm_of hf
  refine r_nm ex5 ?_
  obtain ⟨J7, eJ7, hf⟩ := nm_of hf
  have hJ7 : ∀ (v6 : T_St), J7 v6 = some o_v → WW p l e rm_St_stepWithin s m args below meth c D A 6 0 0 (MQ below (QV D K A (cl_St K q o_v ++ (cl_Pg K g pr))) args s 0 0 A) ([((q 0), ob 6 [.ref (q 1), .ref (q 2), .ref (q 3), .ref (q 4), .int (St_place v6), .int (St_steps v6)]), ((q 1), aI K 8 (St_registers v6)), ((q 2), aI K 4 (St_floats v6)), ((q 3), aI K 8 (St_stuckMask v6)), ((q 4), aI K 8 (St_stuckOnes v6)), ((g 0), ob 3 [.ref (g 1), .ref (g 2), .ref (g 3), .ref (g 4), .ref (g 5), .ref (g 6), .ref (g 7), .ref (g 8), .int (Pg_nameCount pr), .int (Pg_size pr), .int (Pg_lines pr)]), ((g 1), aI K 64 (Pg_code pr)), ((g 2), aI K 64 (Pg_first pr)), ((g 3), aI K 64 (Pg_second pr)), ((g 4), aI K 64 (Pg_third pr)), ((g 5), aI K 8 (Pg_rules pr)), ((g 6), aI K 32 (Pg_data pr)), ((g 7), aI K 140 (Pg_names pr)), ((g 8), aI K 140 (Pg_namedPlaces pr))]) ([(0, .ref (q 0)), (1, .ref (g 0)), (2, .int x1)]) ([]) 355 := by
    intro v6 hf
    rw [eJ7] at hf
    refine r_aload_n (pc := 355) cx dX7_stepWithin_355 0 rfl ?_
    refine r_aload_n (pc := 356) cx dX7_stepWithin_356 1 rfl ?_
    refine r_aload_n (pc := 357) cx dX7_stepWithin_357 1 rfl ?_
    refine r_get (pc := 358) cx cf_X4 5 0 rfl (by decide) rfl wd_136 dX7_stepWithin_358 ?_
    refine r_iload_n (pc := 361) cx dX7_stepWithin_361 2 rfl ?_
    refine r_iald (pc := 362) cx 6 rfl (by rw [ex1]; exact ix_and63 _) dX7_stepWithin_362 ?_
    refine r_bipush (pc := 363) cx dX7_stepWithin_363 bp_14 ?_
    refine r_icmp_ne (pc := 365) (tgt := 372) cx dX7_stepWithin_365 (by decide) (fun h8 => ?_) (fun h8 => ?_)
    · have hf := ifn h8 hf
      refine r_iconst (pc := 372) cx dX7_stepWithin_372 ic_0 ?_
      obtain ⟨v9, hc10, hf⟩ := bd_of hf
      refine r_Vv (pc := 373) (ws' := [((q 0), ob 6 [.ref (q 1), .ref (q 2), .ref (q 3), .ref (q 4), .int (St_place v9), .int (St_steps v9)]), ((q 1), aI K 8 (St_registers v9)), ((q 2), aI K 4 (St_floats v9)), ((q 3), aI K 8 (St_stuckMask v9)), ((q 4), aI K 8 (St_stuckOnes v9)), ((g 0), ob 3 [.ref (g 1), .ref (g 2), .ref (g 3), .ref (g 4), .ref (g 5), .ref (g 6), .ref (g 7), .ref (g 8), .int (Pg_nameCount pr), .int (Pg_size pr), .int (Pg_lines pr)]), ((g 1), aI K 64 (Pg_code pr)), ((g 2), aI K 64 (Pg_first pr)), ((g 3), aI K 64 (Pg_second pr)), ((g 4), aI K 64 (Pg_third pr)), ((g 5), aI K 8 (Pg_rules pr)), ((g 6), aI K 32 (Pg_data pr)), ((g 7), aI K 140 (Pg_names pr)), ((g 8), aI K 140 (Pg_namedPlaces pr))]) cx [.ref (g 0), .int (0 : Int32)] [] [0, 1, 2, 3, 4, 5, 6, 7, 8, 9, 10, 11, 12, 13] (m_St_stepTo l D K q v6 g pr (0 : Int32) hc10) yv_X7_stepTo wd_866 ⟨rfl, rfl⟩ (by decide) rfl rfl rfl (by decide) 0 rfl rfl rfl (Nat.le_of_ble_eq_true rfl) dX7_stepWithin_373 ?_
      cases hf
      exact r_vret (pc := 376) cx rfl dX7_stepWithin_376
    · have hf := ifp h8 hf
      refine r_iconst (pc := 368) cx dX7_stepWithin_368 ic_1 ?_
      refine r_goto (pc := 369) (tgt := 373) cx dX7_stepWithin_369 (by decide) ?_
      obtain ⟨v11, hc12, hf⟩ := bd_of hf
      refine r_Vv (pc := 373) (ws' := [((q 0), ob 6 [.ref (q 1), .ref (q 2), .ref (q 3), .ref (q 4), .int (St_place v11), .int (St_steps v11)]), ((q 1), aI K 8 (St_registers v11)), ((q 2), aI K 4 (St_floats v11)), ((q 3), aI K 8 (St_stuckMask v11)), ((q 4), aI K 8 (St_stuckOnes v11)), ((g 0), ob 3 [.ref (g 1), .ref (g 2), .ref (g 3), .ref (g 4), .ref (g 5), .ref (g 6), .ref (g 7), .ref (g 8), .int (Pg_nameCount pr), .int (Pg_size pr), .int (Pg_lines pr)]), ((g 1), aI K 64 (Pg_code pr)), ((g 2), aI K 64 (Pg_first pr)), ((g 3), aI K 64 (Pg_second pr)), ((g 4), aI K 64 (Pg_third pr)), ((g 5), aI K 8 (Pg_rules pr)), ((g 6), aI K 32 (Pg_data pr)), ((g 7), aI K 140 (Pg_names pr)), ((g 8), aI K 140 (Pg_namedPlaces pr))]) cx [.ref (g 0), .int (1 : Int32)] [] [0, 1, 2, 3, 4, 5, 6, 7, 8, 9, 10, 11, 12, 13] (m_St_stepTo l D K q v6 g pr (1 : Int32) hc12) yv_X7_stepTo wd_866 ⟨rfl, rfl⟩ (by decide) rfl rfl rfl (by decide) 0 rfl rfl rfl (Nat.le_of_ble_eq_true rfl) dX7_stepWithin_373 ?_
      cases hf
      exact r_vret (pc := 376) cx rfl dX7_stepWithin_376
  by_cases h13 : x5 = (1 : Int32)
  · have hf := ifp h13 hf
    refine r_tin (pc := 37) (tgt := 104) cx (1 : Int32) h13 dX7_stepWithin_37 (by decide) (by decide) rfl (by decide) ?_
    refine r_aload_n (pc := 104) cx dX7_stepWithin_104 4 rfl ?_
    refine r_iload_n (pc := 105) cx dX7_stepWithin_105 2 rfl ?_
    refine r_iload (pc := 106) cx dX7_stepWithin_106 1 rfl ?_
    obtain ⟨v14, hc15, hf⟩ := bd_of hf
    refine r_Vv (pc := 108) (ws' := [((q 0), ob 6 [.ref (q 1), .ref (q 2), .ref (q 3), .ref (q 4), .int (St_place v14), .int (St_steps v14)]), ((q 1), aI K 8 (St_registers v14)), ((q 2), aI K 4 (St_floats v14)), ((q 3), aI K 8 (St_stuckMask v14)), ((q 4), aI K 8 (St_stuckOnes v14)), ((g 0), ob 3 [.ref (g 1), .ref (g 2), .ref (g 3), .ref (g 4), .ref (g 5), .ref (g 6), .ref (g 7), .ref (g 8), .int (Pg_nameCount pr), .int (Pg_size pr), .int (Pg_lines pr)]), ((g 1), aI K 64 (Pg_code pr)), ((g 2), aI K 64 (Pg_first pr)), ((g 3), aI K 64 (Pg_second pr)), ((g 4), aI K 64 (Pg_third pr)), ((g 5), aI K 8 (Pg_rules pr)), ((g 6), aI K 32 (Pg_data pr)), ((g 7), aI K 140 (Pg_names pr)), ((g 8), aI K 140 (Pg_namedPlaces pr))]) cx [.int x2, .int x3] [] [0, 1, 2, 3, 4] (m_St_lay l D K q v x2 x3 hc15) yv_X7_lay wd_797 ⟨rfl, rfl⟩ (by decide) rfl rfl rfl (by decide) 0 rfl rfl rfl (Nat.le_of_ble_eq_true rfl) dX7_stepWithin_108 ?_
    refine r_goto (pc := 111) (tgt := 355) cx dX7_stepWithin_111 (by decide) ?_
    refine r_loc (loc' := [(0, .ref (q 0)), (1, .ref (g 0)), (2, .int x1)]) [4, 5, 3] rfl ?_
    exact hJ7 _ hf
  · have hf := ifn h13 hf
    by_cases h16 : x5 = (2 : Int32)
    · have hf := ifp h16 hf
      refine r_tin (pc := 37) (tgt := 114) cx (2 : Int32) h16 dX7_stepWithin_37 (by decide) (by decide) rfl (by decide) ?_
      refine r_aload_n (pc := 114) cx dX7_stepWithin_114 4 rfl ?_
      refine r_iload_n (pc := 115) cx dX7_stepWithin_115 2 rfl ?_
      refine r_aload_n (pc := 116) cx dX7_stepWithin_116 4 rfl ?_
      refine r_get (pc := 117) cx cf_X7 0 0 rfl (by decide) rfl wd_311 dX7_stepWithin_117 ?_
      refine r_iload (pc := 120) cx dX7_stepWithin_120 1 rfl ?_
      refine r_bipush (pc := 122) cx dX7_stepWithin_122 bp_7 ?_
      refine r_iand (pc := 124) cx dX7_stepWithin_124 ?_
      refine r_iald (pc := 125) cx 1 rfl (ix_and7 _) dX7_stepWithin_125 ?_
      refine r_aload_n (pc := 126) cx dX7_stepWithin_126 4 rfl ?_
      refine r_get (pc := 127) cx cf_X7 0 0 rfl (by decide) rfl wd_311 dX7_stepWithin_127 ?_
      refine r_iload (pc := 130) cx dX7_stepWithin_130 0 rfl ?_
      refine r_bipush (pc := 132) cx dX7_stepWithin_132 bp_7 ?_
      refine r_iand (pc := 134) cx dX7_stepWithin_134 ?_
      refine r_iald (pc := 135) cx 1 rfl (ix_and7 _) dX7_stepWithin_135 ?_
      refine r_iadd (pc := 136) cx dX7_stepWithin_136 ?_
      obtain ⟨v17, hc18, hf⟩ := bd_of hf
      refine r_Vv (pc := 137) (ws' := [((q 0), ob 6 [.ref (q 1), .ref (q 2), .ref (q 3), .ref (q 4), .int (St_place v17), .int (St_steps v17)]), ((q 1), aI K 8 (St_registers v17)), ((q 2), aI K 4 (St_floats v17)), ((q 3), aI K 8 (St_stuckMask v17)), ((q 4), aI K 8 (St_stuckOnes v17)), ((g 0), ob 3 [.ref (g 1), .ref (g 2), .ref (g 3), .ref (g 4), .ref (g 5), .ref (g 6), .ref (g 7), .ref (g 8), .int (Pg_nameCount pr), .int (Pg_size pr), .int (Pg_lines pr)]), ((g 1), aI K 64 (Pg_code pr)), ((g 2), aI K 64 (Pg_first pr)), ((g 3), aI K 64 (Pg_second pr)), ((g 4), aI K 64 (Pg_third pr)), ((g 5), aI K 8 (Pg_rules pr)), ((g 6), aI K 32 (Pg_data pr)), ((g 7), aI K 140 (Pg_names pr)), ((g 8), aI K 140 (Pg_namedPlaces pr))]) cx [.int x2, .int (((St_registers v) ((x3 &&& (7 : Int32))).toNatClampNeg) + ((St_registers v) ((x4 &&& (7 : Int32))).toNatClampNeg))] [] [0, 1, 2, 3, 4] (m_St_lay l D K q v x2 (((St_registers v) ((x3 &&& (7 : Int32))).toNatClampNeg) + ((St_registers v) ((x4 &&& (7 : Int32))).toNatClampNeg)) hc18) yv_X7_lay wd_797 ⟨rfl, rfl⟩ (by decide) rfl rfl rfl (by decide) 0 rfl rfl rfl (Nat.le_of_ble_eq_true rfl) dX7_stepWithin_137 ?_
      refine r_goto (pc := 140) (tgt := 355) cx dX7_stepWithin_140 (by decide) ?_
      refine r_loc (loc' := [(0, .ref (q 0)), (1, .ref (g 0)), (2, .int x1)]) [4, 5, 3] rfl ?_
      exact hJ7 _ hf
    · have hf := ifn h16 hf
      by_cases h19 : x5 = (3 : Int32)
      · have hf := ifp h19 hf
        refine r_tin (pc := 37) (tgt := 143) cx (3 : Int32) h19 dX7_stepWithin_37 (by decide) (by decide) rfl (by decide) ?_
        refine r_aload_n (pc := 143) cx dX7_stepWithin_143 4 rfl ?_
        refine r_iload_n (pc := 144) cx dX7_stepWithin_144 2 rfl ?_
        refine r_aload_n (pc := 145) cx dX7_stepWithin_145 4 rfl ?_
        refine r_get (pc := 146) cx cf_X7 0 0 rfl (by decide) rfl wd_311 dX7_stepWithin_146 ?_
        refine r_iload (pc := 149) cx dX7_stepWithin_149 1 rfl ?_
        refine r_bipush (pc := 151) cx dX7_stepWithin_151 bp_7 ?_
        refine r_iand (pc := 153) cx dX7_stepWithin_153 ?_
        refine r_iald (pc := 154) cx 1 rfl (ix_and7 _) dX7_stepWithin_154 ?_
        refine r_aload_n (pc := 155) cx dX7_stepWithin_155 4 rfl ?_
        refine r_get (pc := 156) cx cf_X7 0 0 rfl (by decide) rfl wd_311 dX7_stepWithin_156 ?_
        refine r_iload (pc := 159) cx dX7_stepWithin_159 0 rfl ?_
        refine r_bipush (pc := 161) cx dX7_stepWithin_161 bp_7 ?_
        refine r_iand (pc := 163) cx dX7_stepWithin_163 ?_
        refine r_iald (pc := 164) cx 1 rfl (ix_and7 _) dX7_stepWithin_164 ?_
        refine r_isub (pc := 165) cx dX7_stepWithin_165 ?_
        obtain ⟨v20, hc21, hf⟩ := bd_of hf
        refine r_Vv (pc := 166) (ws' := [((q 0), ob 6 [.ref (q 1), .ref (q 2), .ref (q 3), .ref (q 4), .int (St_place v20), .int (St_steps v20)]), ((q 1), aI K 8 (St_registers v20)), ((q 2), aI K 4 (St_floats v20)), ((q 3), aI K 8 (St_stuckMask v20)), ((q 4), aI K 8 (St_stuckOnes v20)), ((g 0), ob 3 [.ref (g 1), .ref (g 2), .ref (g 3), .ref (g 4), .ref (g 5), .ref (g 6), .ref (g 7), .ref (g 8), .int (Pg_nameCount pr), .int (Pg_size pr), .int (Pg_lines pr)]), ((g 1), aI K 64 (Pg_code pr)), ((g 2), aI K 64 (Pg_first pr)), ((g 3), aI K 64 (Pg_second pr)), ((g 4), aI K 64 (Pg_third pr)), ((g 5), aI K 8 (Pg_rules pr)), ((g 6), aI K 32 (Pg_data pr)), ((g 7), aI K 140 (Pg_names pr)), ((g 8), aI K 140 (Pg_namedPlaces pr))]) cx [.int x2, .int (((St_registers v) ((x3 &&& (7 : Int32))).toNatClampNeg) - ((St_registers v) ((x4 &&& (7 : Int32))).toNatClampNeg))] [] [0, 1, 2, 3, 4] (m_St_lay l D K q v x2 (((St_registers v) ((x3 &&& (7 : Int32))).toNatClampNeg) - ((St_registers v) ((x4 &&& (7 : Int32))).toNatClampNeg)) hc21) yv_X7_lay wd_797 ⟨rfl, rfl⟩ (by decide) rfl rfl rfl (by decide) 0 rfl rfl rfl (Nat.le_of_ble_eq_true rfl) dX7_stepWithin_166 ?_
        refine r_goto (pc := 169) (tgt := 355) cx dX7_stepWithin_169 (by decide) ?_
        refine r_loc (loc' := [(0, .ref (q 0)), (1, .ref (g 0)), (2, .int x1)]) [4, 5, 3] rfl ?_
        exact hJ7 _ hf
      · have hf := ifn h19 hf
        by_cases h22 : x5 = (4 : Int32)
        · have hf := ifp h22 hf
          refine r_tin (pc := 37) (tgt := 172) cx (4 : Int32) h22 dX7_stepWithin_37 (by decide) (by decide) rfl (by decide) ?_
          refine r_aload_n (pc := 172) cx dX7_stepWithin_172 4 rfl ?_
          refine r_iload_n (pc := 173) cx dX7_stepWithin_173 2 rfl ?_
          refine r_aload_n (pc := 174) cx dX7_stepWithin_174 4 rfl ?_
          refine r_get (pc := 175) cx cf_X7 0 0 rfl (by decide) rfl wd_311 dX7_stepWithin_175 ?_
          refine r_iload (pc := 178) cx dX7_stepWithin_178 1 rfl ?_
          refine r_bipush (pc := 180) cx dX7_stepWithin_180 bp_7 ?_
          refine r_iand (pc := 182) cx dX7_stepWithin_182 ?_
          refine r_iald (pc := 183) cx 1 rfl (ix_and7 _) dX7_stepWithin_183 ?_
          refine r_aload_n (pc := 184) cx dX7_stepWithin_184 4 rfl ?_
          refine r_get (pc := 185) cx cf_X7 0 0 rfl (by decide) rfl wd_311 dX7_stepWithin_185 ?_
          refine r_iload (pc := 188) cx dX7_stepWithin_188 0 rfl ?_
          refine r_bipush (pc := 190) cx dX7_stepWithin_190 bp_7 ?_
          refine r_iand (pc := 192) cx dX7_stepWithin_192 ?_
          refine r_iald (pc := 193) cx 1 rfl (ix_and7 _) dX7_stepWithin_193 ?_
          refine r_imul (pc := 194) cx dX7_stepWithin_194 ?_
          obtain ⟨v23, hc24, hf⟩ := bd_of hf
          refine r_Vv (pc := 195) (ws' := [((q 0), ob 6 [.ref (q 1), .ref (q 2), .ref (q 3), .ref (q 4), .int (St_place v23), .int (St_steps v23)]), ((q 1), aI K 8 (St_registers v23)), ((q 2), aI K 4 (St_floats v23)), ((q 3), aI K 8 (St_stuckMask v23)), ((q 4), aI K 8 (St_stuckOnes v23)), ((g 0), ob 3 [.ref (g 1), .ref (g 2), .ref (g 3), .ref (g 4), .ref (g 5), .ref (g 6), .ref (g 7), .ref (g 8), .int (Pg_nameCount pr), .int (Pg_size pr), .int (Pg_lines pr)]), ((g 1), aI K 64 (Pg_code pr)), ((g 2), aI K 64 (Pg_first pr)), ((g 3), aI K 64 (Pg_second pr)), ((g 4), aI K 64 (Pg_third pr)), ((g 5), aI K 8 (Pg_rules pr)), ((g 6), aI K 32 (Pg_data pr)), ((g 7), aI K 140 (Pg_names pr)), ((g 8), aI K 140 (Pg_namedPlaces pr))]) cx [.int x2, .int (((St_registers v) ((x3 &&& (7 : Int32))).toNatClampNeg) * ((St_registers v) ((x4 &&& (7 : Int32))).toNatClampNeg))] [] [0, 1, 2, 3, 4] (m_St_lay l D K q v x2 (((St_registers v) ((x3 &&& (7 : Int32))).toNatClampNeg) * ((St_registers v) ((x4 &&& (7 : Int32))).toNatClampNeg)) hc24) yv_X7_lay wd_797 ⟨rfl, rfl⟩ (by decide) rfl rfl rfl (by decide) 0 rfl rfl rfl (Nat.le_of_ble_eq_true rfl) dX7_stepWithin_195 ?_
          refine r_goto (pc := 198) (tgt := 355) cx dX7_stepWithin_198 (by decide) ?_
          refine r_loc (loc' := [(0, .ref (q 0)), (1, .ref (g 0)), (2, .int x1)]) [4, 5, 3] rfl ?_
          exact hJ7 _ hf
        · have hf := ifn h22 hf
          by_cases h25 : x5 = (5 : Int32)
          · have hf := ifp h25 hf
            refine r_tin (pc := 37) (tgt := 201) cx (5 : Int32) h25 dX7_stepWithin_37 (by decide) (by decide) rfl (by decide) ?_
            refine r_aload_n (pc := 201) cx dX7_stepWithin_201 4 rfl ?_
            refine r_iload_n (pc := 202) cx dX7_stepWithin_202 2 rfl ?_
            refine r_aload_n (pc := 203) cx dX7_stepWithin_203 4 rfl ?_
            refine r_get (pc := 204) cx cf_X7 0 0 rfl (by decide) rfl wd_311 dX7_stepWithin_204 ?_
            refine r_iload (pc := 207) cx dX7_stepWithin_207 1 rfl ?_
            refine r_bipush (pc := 209) cx dX7_stepWithin_209 bp_7 ?_
            refine r_iand (pc := 211) cx dX7_stepWithin_211 ?_
            refine r_iald (pc := 212) cx 1 rfl (ix_and7 _) dX7_stepWithin_212 ?_
            refine r_aload_n (pc := 213) cx dX7_stepWithin_213 4 rfl ?_
            refine r_get (pc := 214) cx cf_X7 0 0 rfl (by decide) rfl wd_311 dX7_stepWithin_214 ?_
            refine r_iload (pc := 217) cx dX7_stepWithin_217 0 rfl ?_
            refine r_bipush (pc := 219) cx dX7_stepWithin_219 bp_7 ?_
            refine r_iand (pc := 221) cx dX7_stepWithin_221 ?_
            refine r_iald (pc := 222) cx 1 rfl (ix_and7 _) dX7_stepWithin_222 ?_
            refine r_ixor (pc := 223) cx dX7_stepWithin_223 ?_
            obtain ⟨v26, hc27, hf⟩ := bd_of hf
            refine r_Vv (pc := 224) (ws' := [((q 0), ob 6 [.ref (q 1), .ref (q 2), .ref (q 3), .ref (q 4), .int (St_place v26), .int (St_steps v26)]), ((q 1), aI K 8 (St_registers v26)), ((q 2), aI K 4 (St_floats v26)), ((q 3), aI K 8 (St_stuckMask v26)), ((q 4), aI K 8 (St_stuckOnes v26)), ((g 0), ob 3 [.ref (g 1), .ref (g 2), .ref (g 3), .ref (g 4), .ref (g 5), .ref (g 6), .ref (g 7), .ref (g 8), .int (Pg_nameCount pr), .int (Pg_size pr), .int (Pg_lines pr)]), ((g 1), aI K 64 (Pg_code pr)), ((g 2), aI K 64 (Pg_first pr)), ((g 3), aI K 64 (Pg_second pr)), ((g 4), aI K 64 (Pg_third pr)), ((g 5), aI K 8 (Pg_rules pr)), ((g 6), aI K 32 (Pg_data pr)), ((g 7), aI K 140 (Pg_names pr)), ((g 8), aI K 140 (Pg_namedPlaces pr))]) cx [.int x2, .int (((St_registers v) ((x3 &&& (7 : Int32))).toNatClampNeg) ^^^ ((St_registers v) ((x4 &&& (7 : Int32))).toNatClampNeg))] [] [0, 1, 2, 3, 4] (m_St_lay l D K q v x2 (((St_registers v) ((x3 &&& (7 : Int32))).toNatClampNeg) ^^^ ((St_registers v) ((x4 &&& (7 : Int32))).toNatClampNeg)) hc27) yv_X7_lay wd_797 ⟨rfl, rfl⟩ (by decide) rfl rfl rfl (by decide) 0 rfl rfl rfl (Nat.le_of_ble_eq_true rfl) dX7_stepWithin_224 ?_
            refine r_goto (pc := 227) (tgt := 355) cx dX7_stepWithin_227 (by decide) ?_
            refine r_loc (loc' := [(0, .ref (q 0)), (1, .ref (g 0)), (2, .int x1)]) [4, 5, 3] rfl ?_
            exact hJ7 _ hf
          · have hf := ifn h25 hf
            by_cases h29 : x5 = (6 : Int32)
            · have hf := ifp h29 hf
              refine r_tin (pc := 37) (tgt := 355) cx (6 : Int32) h29 dX7_stepWithin_37 (by decide) (by decide) rfl (by decide) ?_
              refine r_loc (loc' := [(0, .ref (q 0)), (1, .ref (g 0)), (2, .int x1)]) [4, 5, 3] rfl ?_
              exact hJ7 _ hf
            · have hf := ifn h29 hf
              by_cases h31 : x5 = (7 : Int32)
              · have hf := ifp h31 hf
                refine r_tin (pc := 37) (tgt := 355) cx (7 : Int32) h31 dX7_stepWithin_37 (by decide) (by decide) rfl (by decide) ?_
                refine r_loc (loc' := [(0, .ref (q 0)), (1, .ref (g 0)), (2, .int x1)]) [4, 5, 3] rfl ?_
                exact hJ7 _ hf
              · have hf := ifn h31 hf
                by_cases h33 : x5 = (8 : Int32)
                · have hf := ifp h33 hf
                  refine r_tin (pc := 37) (tgt := 355) cx (8 : Int32) h33 dX7_stepWithin_37 (by decide) (by decide) rfl (by decide) ?_
                  refine r_loc (loc' := [(0, .ref (q 0)), (1, .ref (g 0)), (2, .int x1)]) [4, 5, 3] rfl ?_
                  exact hJ7 _ hf
                · have hf := ifn h33 hf
                  by_cases h34 : x5 = (9 : Int32)
                  · have hf := ifp h34 hf
                    refine r_tin (pc := 37) (tgt := 230) cx (9 : Int32) h34 dX7_stepWithin_37 (by decide) (by decide) rfl (by decide) ?_
                    refine r_aload_n (pc := 230) cx dX7_stepWithin_230 4 rfl ?_
                    refine r_get (pc := 231) cx cf_X7 0 1 rfl (by decide) rfl wd_313 dX7_stepWithin_231 ?_
                    refine r_iload_n (pc := 234) cx dX7_stepWithin_234 2 rfl ?_
                    refine r_iconst (pc := 235) cx dX7_stepWithin_235 ic_3 ?_
                    refine r_iand (pc := 236) cx dX7_stepWithin_236 ?_
                    refine r_aload_n (pc := 237) cx dX7_stepWithin_237 4 rfl ?_
                    refine r_get (pc := 238) cx cf_X7 0 0 rfl (by decide) rfl wd_311 dX7_stepWithin_238 ?_
                    refine r_iload (pc := 241) cx dX7_stepWithin_241 1 rfl ?_
                    refine r_bipush (pc := 243) cx dX7_stepWithin_243 bp_7 ?_
                    refine r_iand (pc := 245) cx dX7_stepWithin_245 ?_
                    refine r_iald (pc := 246) cx 1 rfl (ix_and7 _) dX7_stepWithin_246 ?_
                    obtain ⟨r35, hc36, hf⟩ := bd_of hf
                    refine r_Si (pc := 247) (ws' := [((q 0), ob 6 [.ref (q 1), .ref (q 2), .ref (q 3), .ref (q 4), .int (St_place v), .int (St_steps v)]), ((q 1), aI K 8 (St_registers v)), ((q 2), aI K 4 (St_floats v)), ((q 3), aI K 8 (St_stuckMask v)), ((q 4), aI K 8 (St_stuckOnes v)), ((g 0), ob 3 [.ref (g 1), .ref (g 2), .ref (g 3), .ref (g 4), .ref (g 5), .ref (g 6), .ref (g 7), .ref (g 8), .int (Pg_nameCount pr), .int (Pg_size pr), .int (Pg_lines pr)]), ((g 1), aI K 64 (Pg_code pr)), ((g 2), aI K 64 (Pg_first pr)), ((g 3), aI K 64 (Pg_second pr)), ((g 4), aI K 64 (Pg_third pr)), ((g 5), aI K 8 (Pg_rules pr)), ((g 6), aI K 32 (Pg_data pr)), ((g 7), aI K 140 (Pg_names pr)), ((g 8), aI K 140 (Pg_namedPlaces pr))]) cx [.int ((St_registers v) ((x3 &&& (7 : Int32))).toNatClampNeg)] [.int (x2 &&& (3 : Int32)), .ref (q 2)] [] (m_Fl_ofWhole l D K ((St_registers v) ((x3 &&& (7 : Int32))).toNatClampNeg) hc36) ys_X1_ofWhole wd_822 ⟨rfl, rfl⟩ (by decide) rfl rfl rfl (by decide) rfl (Nat.le_of_ble_eq_true rfl) dX7_stepWithin_247 ?_
                    obtain ⟨f37, ef37, hf⟩ := nm_of hf
                    refine r_iast (pc := 250) (ws' := [((q 0), ob 6 [.ref (q 1), .ref (q 2), .ref (q 3), .ref (q 4), .int (St_place v), .int (St_steps v)]), ((q 1), aI K 8 (St_registers v)), ((q 2), aI K 4 f37), ((q 3), aI K 8 (St_stuckMask v)), ((q 4), aI K 8 (St_stuckOnes v)), ((g 0), ob 3 [.ref (g 1), .ref (g 2), .ref (g 3), .ref (g 4), .ref (g 5), .ref (g 6), .ref (g 7), .ref (g 8), .int (Pg_nameCount pr), .int (Pg_size pr), .int (Pg_lines pr)]), ((g 1), aI K 64 (Pg_code pr)), ((g 2), aI K 64 (Pg_first pr)), ((g 3), aI K 64 (Pg_second pr)), ((g 4), aI K 64 (Pg_third pr)), ((g 5), aI K 8 (Pg_rules pr)), ((g 6), aI K 32 (Pg_data pr)), ((g 7), aI K 140 (Pg_names pr)), ((g 8), aI K 140 (Pg_namedPlaces pr))]) cx 2 rfl (ix_and3 _) dX7_stepWithin_250 ef37 rfl ?_
                    refine r_goto (pc := 251) (tgt := 355) cx dX7_stepWithin_251 (by decide) ?_
                    refine r_loc (loc' := [(0, .ref (q 0)), (1, .ref (g 0)), (2, .int x1)]) [4, 5, 3] rfl ?_
                    exact hJ7 _ hf
                  · have hf := ifn h34 hf
                    by_cases h38 : x5 = (10 : Int32)
                    · have hf := ifp h38 hf
                      refine r_tin (pc := 37) (tgt := 254) cx (10 : Int32) h38 dX7_stepWithin_37 (by decide) (by decide) rfl (by decide) ?_
                      refine r_aload_n (pc := 254) cx dX7_stepWithin_254 4 rfl ?_
                      refine r_iload_n (pc := 255) cx dX7_stepWithin_255 2 rfl ?_
                      refine r_aload_n (pc := 256) cx dX7_stepWithin_256 4 rfl ?_
                      refine r_get (pc := 257) cx cf_X7 0 1 rfl (by decide) rfl wd_313 dX7_stepWithin_257 ?_
                      refine r_iload (pc := 260) cx dX7_stepWithin_260 1 rfl ?_
                      refine r_iconst (pc := 262) cx dX7_stepWithin_262 ic_3 ?_
                      refine r_iand (pc := 263) cx dX7_stepWithin_263 ?_
                      refine r_iald (pc := 264) cx 2 rfl (ix_and3 _) dX7_stepWithin_264 ?_
                      obtain ⟨r39, hc40, hf⟩ := bd_of hf
                      refine r_Si (pc := 265) (ws' := [((q 0), ob 6 [.ref (q 1), .ref (q 2), .ref (q 3), .ref (q 4), .int (St_place v), .int (St_steps v)]), ((q 1), aI K 8 (St_registers v)), ((q 2), aI K 4 (St_floats v)), ((q 3), aI K 8 (St_stuckMask v)), ((q 4), aI K 8 (St_stuckOnes v)), ((g 0), ob 3 [.ref (g 1), .ref (g 2), .ref (g 3), .ref (g 4), .ref (g 5), .ref (g 6), .ref (g 7), .ref (g 8), .int (Pg_nameCount pr), .int (Pg_size pr), .int (Pg_lines pr)]), ((g 1), aI K 64 (Pg_code pr)), ((g 2), aI K 64 (Pg_first pr)), ((g 3), aI K 64 (Pg_second pr)), ((g 4), aI K 64 (Pg_third pr)), ((g 5), aI K 8 (Pg_rules pr)), ((g 6), aI K 32 (Pg_data pr)), ((g 7), aI K 140 (Pg_names pr)), ((g 8), aI K 140 (Pg_namedPlaces pr))]) cx [.int ((St_floats v) ((x3 &&& (3 : Int32))).toNatClampNeg)] [.int x2, .ref (q 0)] [] (m_Fl_toWhole l D K ((St_floats v) ((x3 &&& (3 : Int32))).toNatClampNeg) hc40) ys_X1_toWhole wd_846 ⟨rfl, rfl⟩ (by decide) rfl rfl rfl (by decide) rfl (Nat.le_of_ble_eq_true rfl) dX7_stepWithin_265 ?_
                      obtain ⟨v41, hc42, hf⟩ := bd_of hf
                      refine r_Vv (pc := 268) (ws' := [((q 0), ob 6 [.ref (q 1), .ref (q 2), .ref (q 3), .ref (q 4), .int (St_place v41), .int (St_steps v41)]), ((q 1), aI K 8 (St_registers v41)), ((q 2), aI K 4 (St_floats v41)), ((q 3), aI K 8 (St_stuckMask v41)), ((q 4), aI K 8 (St_stuckOnes v41)), ((g 0), ob 3 [.ref (g 1), .ref (g 2), .ref (g 3), .ref (g 4), .ref (g 5), .ref (g 6), .ref (g 7), .ref (g 8), .int (Pg_nameCount pr), .int (Pg_size pr), .int (Pg_lines pr)]), ((g 1), aI K 64 (Pg_code pr)), ((g 2), aI K 64 (Pg_first pr)), ((g 3), aI K 64 (Pg_second pr)), ((g 4), aI K 64 (Pg_third pr)), ((g 5), aI K 8 (Pg_rules pr)), ((g 6), aI K 32 (Pg_data pr)), ((g 7), aI K 140 (Pg_names pr)), ((g 8), aI K 140 (Pg_namedPlaces pr))]) cx [.int x2, .int r39] [] [0, 1, 2, 3, 4] (m_St_lay l D K q v x2 r39 hc42) yv_X7_lay wd_797 ⟨rfl, rfl⟩ (by decide) rfl rfl rfl (by decide) 0 rfl rfl rfl (Nat.le_of_ble_eq_true rfl) dX7_stepWithin_268 ?_
                      refine r_goto (pc := 271) (tgt := 355) cx dX7_stepWithin_271 (by decide) ?_
                      refine r_loc (loc' := [(0, .ref (q 0)), (1, .ref (g 0)), (2, .int x1)]) [4, 5, 3] rfl ?_
                      exact hJ7 _ hf
                    · have hf := ifn h38 hf
                      by_cases h43 : x5 = (11 : Int32)
                      · have hf := ifp h43 hf
                        refine r_tin (pc := 37) (tgt := 274) cx (11 : Int32) h43 dX7_stepWithin_37 (by decide) (by decide) rfl (by decide) ?_
                        refine r_aload_n (pc := 274) cx dX7_stepWithin_274 4 rfl ?_
                        refine r_iload_n (pc := 275) cx dX7_stepWithin_275 2 rfl ?_
                        refine r_aload_n (pc := 276) cx dX7_stepWithin_276 4 rfl ?_
                        refine r_get (pc := 277) cx cf_X7 0 1 rfl (by decide) rfl wd_313 dX7_stepWithin_277 ?_
                        refine r_iload (pc := 280) cx dX7_stepWithin_280 1 rfl ?_
                        refine r_iconst (pc := 282) cx dX7_stepWithin_282 ic_3 ?_
                        refine r_iand (pc := 283) cx dX7_stepWithin_283 ?_
                        refine r_iald (pc := 284) cx 2 rfl (ix_and3 _) dX7_stepWithin_284 ?_
                        obtain ⟨v44, hc45, hf⟩ := bd_of hf
                        refine r_Vv (pc := 285) (ws' := [((q 0), ob 6 [.ref (q 1), .ref (q 2), .ref (q 3), .ref (q 4), .int (St_place v44), .int (St_steps v44)]), ((q 1), aI K 8 (St_registers v44)), ((q 2), aI K 4 (St_floats v44)), ((q 3), aI K 8 (St_stuckMask v44)), ((q 4), aI K 8 (St_stuckOnes v44)), ((g 0), ob 3 [.ref (g 1), .ref (g 2), .ref (g 3), .ref (g 4), .ref (g 5), .ref (g 6), .ref (g 7), .ref (g 8), .int (Pg_nameCount pr), .int (Pg_size pr), .int (Pg_lines pr)]), ((g 1), aI K 64 (Pg_code pr)), ((g 2), aI K 64 (Pg_first pr)), ((g 3), aI K 64 (Pg_second pr)), ((g 4), aI K 64 (Pg_third pr)), ((g 5), aI K 8 (Pg_rules pr)), ((g 6), aI K 32 (Pg_data pr)), ((g 7), aI K 140 (Pg_names pr)), ((g 8), aI K 140 (Pg_namedPlaces pr))]) cx [.int x2, .int ((St_floats v) ((x3 &&& (3 : Int32))).toNatClampNeg)] [] [0, 1, 2, 3, 4] (m_St_lay l D K q v x2 ((St_floats v) ((x3 &&& (3 : Int32))).toNatClampNeg) hc45) yv_X7_lay wd_797 ⟨rfl, rfl⟩ (by decide) rfl rfl rfl (by decide) 0 rfl rfl rfl (Nat.le_of_ble_eq_true rfl) dX7_stepWithin_285 ?_
                        refine r_goto (pc := 288) (tgt := 355) cx dX7_stepWithin_288 (by decide) ?_
                        refine r_loc (loc' := [(0, .ref (q 0)), (1, .ref (g 0)), (2, .int x1)]) [4, 5, 3] rfl ?_
                        exact hJ7 _ hf
                      · have hf := ifn h43 hf
                        by_cases h46 : x5 = (12 : Int32)
                        · have hf := ifp h46 hf
                          refine r_tin (pc := 37) (tgt := 291) cx (12 : Int32) h46 dX7_stepWithin_37 (by decide) (by decide) rfl (by decide) ?_
                          refine r_aload_n (pc := 291) cx dX7_stepWithin_291 4 rfl ?_
                          refine r_get (pc := 292) cx cf_X7 0 1 rfl (by decide) rfl wd_313 dX7_stepWithin_292 ?_
                          refine r_iload_n (pc := 295) cx dX7_stepWithin_295 2 rfl ?_
                          refine r_iconst (pc := 296) cx dX7_stepWithin_296 ic_3 ?_
                          refine r_iand (pc := 297) cx dX7_stepWithin_297 ?_
                          refine r_aload_n (pc := 298) cx dX7_stepWithin_298 4 rfl ?_
                          refine r_get (pc := 299) cx cf_X7 0 1 rfl (by decide) rfl wd_313 dX7_stepWithin_299 ?_
                          refine r_iload (pc := 302) cx dX7_stepWithin_302 1 rfl ?_
                          refine r_iconst (pc := 304) cx dX7_stepWithin_304 ic_3 ?_
                          refine r_iand (pc := 305) cx dX7_stepWithin_305 ?_
                          refine r_iald (pc := 306) cx 2 rfl (ix_and3 _) dX7_stepWithin_306 ?_
                          refine r_aload_n (pc := 307) cx dX7_stepWithin_307 4 rfl ?_
                          refine r_get (pc := 308) cx cf_X7 0 1 rfl (by decide) rfl wd_313 dX7_stepWithin_308 ?_
                          refine r_iload (pc := 311) cx dX7_stepWithin_311 0 rfl ?_
                          refine r_iconst (pc := 313) cx dX7_stepWithin_313 ic_3 ?_
                          refine r_iand (pc := 314) cx dX7_stepWithin_314 ?_
                          refine r_iald (pc := 315) cx 2 rfl (ix_and3 _) dX7_stepWithin_315 ?_
                          obtain ⟨r47, hc48, hf⟩ := bd_of hf
                          refine r_Si (pc := 316) (ws' := [((q 0), ob 6 [.ref (q 1), .ref (q 2), .ref (q 3), .ref (q 4), .int (St_place v), .int (St_steps v)]), ((q 1), aI K 8 (St_registers v)), ((q 2), aI K 4 (St_floats v)), ((q 3), aI K 8 (St_stuckMask v)), ((q 4), aI K 8 (St_stuckOnes v)), ((g 0), ob 3 [.ref (g 1), .ref (g 2), .ref (g 3), .ref (g 4), .ref (g 5), .ref (g 6), .ref (g 7), .ref (g 8), .int (Pg_nameCount pr), .int (Pg_size pr), .int (Pg_lines pr)]), ((g 1), aI K 64 (Pg_code pr)), ((g 2), aI K 64 (Pg_first pr)), ((g 3), aI K 64 (Pg_second pr)), ((g 4), aI K 64 (Pg_third pr)), ((g 5), aI K 8 (Pg_rules pr)), ((g 6), aI K 32 (Pg_data pr)), ((g 7), aI K 140 (Pg_names pr)), ((g 8), aI K 140 (Pg_namedPlaces pr))]) cx [.int ((St_floats v) ((x3 &&& (3 : Int32))).toNatClampNeg), .int ((St_floats v) ((x4 &&& (3 : Int32))).toNatClampNeg)] [.int (x2 &&& (3 : Int32)), .ref (q 2)] [] (m_Fl_sum l D K ((St_floats v) ((x3 &&& (3 : Int32))).toNatClampNeg) ((St_floats v) ((x4 &&& (3 : Int32))).toNatClampNeg) hc48) ys_X1_sum wd_859 ⟨rfl, rfl⟩ (by decide) rfl rfl rfl (by decide) rfl (Nat.le_of_ble_eq_true rfl) dX7_stepWithin_316 ?_
                          obtain ⟨f49, ef49, hf⟩ := nm_of hf
                          refine r_iast (pc := 319) (ws' := [((q 0), ob 6 [.ref (q 1), .ref (q 2), .ref (q 3), .ref (q 4), .int (St_place v), .int (St_steps v)]), ((q 1), aI K 8 (St_registers v)), ((q 2), aI K 4 f49), ((q 3), aI K 8 (St_stuckMask v)), ((q 4), aI K 8 (St_stuckOnes v)), ((g 0), ob 3 [.ref (g 1), .ref (g 2), .ref (g 3), .ref (g 4), .ref (g 5), .ref (g 6), .ref (g 7), .ref (g 8), .int (Pg_nameCount pr), .int (Pg_size pr), .int (Pg_lines pr)]), ((g 1), aI K 64 (Pg_code pr)), ((g 2), aI K 64 (Pg_first pr)), ((g 3), aI K 64 (Pg_second pr)), ((g 4), aI K 64 (Pg_third pr)), ((g 5), aI K 8 (Pg_rules pr)), ((g 6), aI K 32 (Pg_data pr)), ((g 7), aI K 140 (Pg_names pr)), ((g 8), aI K 140 (Pg_namedPlaces pr))]) cx 2 rfl (ix_and3 _) dX7_stepWithin_319 ef49 rfl ?_
                          refine r_goto (pc := 320) (tgt := 355) cx dX7_stepWithin_320 (by decide) ?_
                          refine r_loc (loc' := [(0, .ref (q 0)), (1, .ref (g 0)), (2, .int x1)]) [4, 5, 3] rfl ?_
                          exact hJ7 _ hf
                        · have hf := ifn h46 hf
                          by_cases h50 : x5 = (13 : Int32)
                          · have hf := ifp h50 hf
                            refine r_tin (pc := 37) (tgt := 323) cx (13 : Int32) h50 dX7_stepWithin_37 (by decide) (by decide) rfl (by decide) ?_
                            refine r_aload_n (pc := 323) cx dX7_stepWithin_323 4 rfl ?_
                            refine r_get (pc := 324) cx cf_X7 0 1 rfl (by decide) rfl wd_313 dX7_stepWithin_324 ?_
                            refine r_iload_n (pc := 327) cx dX7_stepWithin_327 2 rfl ?_
                            refine r_iconst (pc := 328) cx dX7_stepWithin_328 ic_3 ?_
                            refine r_iand (pc := 329) cx dX7_stepWithin_329 ?_
                            refine r_aload_n (pc := 330) cx dX7_stepWithin_330 4 rfl ?_
                            refine r_get (pc := 331) cx cf_X7 0 1 rfl (by decide) rfl wd_313 dX7_stepWithin_331 ?_
                            refine r_iload (pc := 334) cx dX7_stepWithin_334 1 rfl ?_
                            refine r_iconst (pc := 336) cx dX7_stepWithin_336 ic_3 ?_
                            refine r_iand (pc := 337) cx dX7_stepWithin_337 ?_
                            refine r_iald (pc := 338) cx 2 rfl (ix_and3 _) dX7_stepWithin_338 ?_
                            refine r_aload_n (pc := 339) cx dX7_stepWithin_339 4 rfl ?_
                            refine r_get (pc := 340) cx cf_X7 0 1 rfl (by decide) rfl wd_313 dX7_stepWithin_340 ?_
                            refine r_iload (pc := 343) cx dX7_stepWithin_343 0 rfl ?_
                            refine r_iconst (pc := 345) cx dX7_stepWithin_345 ic_3 ?_
                            refine r_iand (pc := 346) cx dX7_stepWithin_346 ?_
                            refine r_iald (pc := 347) cx 2 rfl (ix_and3 _) dX7_stepWithin_347 ?_
                            obtain ⟨r51, hc52, hf⟩ := bd_of hf
                            refine r_Si (pc := 348) (ws' := [((q 0), ob 6 [.ref (q 1), .ref (q 2), .ref (q 3), .ref (q 4), .int (St_place v), .int (St_steps v)]), ((q 1), aI K 8 (St_registers v)), ((q 2), aI K 4 (St_floats v)), ((q 3), aI K 8 (St_stuckMask v)), ((q 4), aI K 8 (St_stuckOnes v)), ((g 0), ob 3 [.ref (g 1), .ref (g 2), .ref (g 3), .ref (g 4), .ref (g 5), .ref (g 6), .ref (g 7), .ref (g 8), .int (Pg_nameCount pr), .int (Pg_size pr), .int (Pg_lines pr)]), ((g 1), aI K 64 (Pg_code pr)), ((g 2), aI K 64 (Pg_first pr)), ((g 3), aI K 64 (Pg_second pr)), ((g 4), aI K 64 (Pg_third pr)), ((g 5), aI K 8 (Pg_rules pr)), ((g 6), aI K 32 (Pg_data pr)), ((g 7), aI K 140 (Pg_names pr)), ((g 8), aI K 140 (Pg_namedPlaces pr))]) cx [.int ((St_floats v) ((x3 &&& (3 : Int32))).toNatClampNeg), .int ((St_floats v) ((x4 &&& (3 : Int32))).toNatClampNeg)] [.int (x2 &&& (3 : Int32)), .ref (q 2)] [] (m_Fl_product l D K ((St_floats v) ((x3 &&& (3 : Int32))).toNatClampNeg) ((St_floats v) ((x4 &&& (3 : Int32))).toNatClampNeg) hc52) ys_X1_product wd_863 ⟨rfl, rfl⟩ (by decide) rfl rfl rfl (by decide) rfl (Nat.le_of_ble_eq_true rfl) dX7_stepWithin_348 ?_
                            obtain ⟨f53, ef53, hf⟩ := nm_of hf
                            refine r_iast (pc := 351) (ws' := [((q 0), ob 6 [.ref (q 1), .ref (q 2), .ref (q 3), .ref (q 4), .int (St_place v), .int (St_steps v)]), ((q 1), aI K 8 (St_registers v)), ((q 2), aI K 4 f53), ((q 3), aI K 8 (St_stuckMask v)), ((q 4), aI K 8 (St_stuckOnes v)), ((g 0), ob 3 [.ref (g 1), .ref (g 2), .ref (g 3), .ref (g 4), .ref (g 5), .ref (g 6), .ref (g 7), .ref (g 8), .int (Pg_nameCount pr), .int (Pg_size pr), .int (Pg_lines pr)]), ((g 1), aI K 64 (Pg_code pr)), ((g 2), aI K 64 (Pg_first pr)), ((g 3), aI K 64 (Pg_second pr)), ((g 4), aI K 64 (Pg_third pr)), ((g 5), aI K 8 (Pg_rules pr)), ((g 6), aI K 32 (Pg_data pr)), ((g 7), aI K 140 (Pg_names pr)), ((g 8), aI K 140 (Pg_namedPlaces pr))]) cx 2 rfl (ix_and3 _) dX7_stepWithin_351 ef53 rfl ?_
                            refine r_goto (pc := 352) (tgt := 355) cx dX7_stepWithin_352 (by decide) ?_
                            refine r_loc (loc' := [(0, .ref (q 0)), (1, .ref (g 0)), (2, .int x1)]) [4, 5, 3] rfl ?_
                            exact hJ7 _ hf
                          · have hf := ifn h50 hf
                            refine r_tout (pc := 37) (tgt := 355) cx dX7_stepWithin_37 (by
                              have nh13 := toInt_ne h13
                              have mh13 : (1 : Int32).toInt = 1 := by decide
                              rw [mh13] at nh13
                              have nh16 := toInt_ne h16
                              have mh16 : (2 : Int32).toInt = 2 := by decide
                              rw [mh16] at nh16
                              have nh19 := toInt_ne h19
                              have mh19 : (3 : Int32).toInt = 3 := by decide
                              rw [mh19] at nh19
                              have nh22 := toInt_ne h22
                              have mh22 : (4 : Int32).toInt = 4 := by decide
                              rw [mh22] at nh22
                              have nh25 := toInt_ne h25
                              have mh25 : (5 : Int32).toInt = 5 := by decide
                              rw [mh25] at nh25
                              have nh29 := toInt_ne h29
                              have mh29 : (6 : Int32).toInt = 6 := by decide
                              rw [mh29] at nh29
                              have nh31 := toInt_ne h31
                              have mh31 : (7 : Int32).toInt = 7 := by decide
                              rw [mh31] at nh31
                              have nh33 := toInt_ne h33
                              have mh33 : (8 : Int32).toInt = 8 := by decide
                              rw [mh33] at nh33
                              have nh34 := toInt_ne h34
                              have mh34 : (9 : Int32).toInt = 9 := by decide
                              rw [mh34] at nh34
                              have nh38 := toInt_ne h38
                              have mh38 : (10 : Int32).toInt = 10 := by decide
                              rw [mh38] at nh38
                              have nh43 := toInt_ne h43
                              have mh43 : (11 : Int32).toInt = 11 := by decide
                              rw [mh43] at nh43
                              have nh46 := toInt_ne h46
                              have mh46 : (12 : Int32).toInt = 12 := by decide
                              rw [mh46] at nh46
                              have nh50 := toInt_ne h50
                              have mh50 : (13 : Int32).toInt = 13 := by decide
                              rw [mh50] at nh50
                              omega) (by decide) ?_
                            refine r_loc (loc' := [(0, .ref (q 0)), (1, .ref (g 0)), (2, .int x1)]) [4, 5, 3] rfl ?_
                            exact hJ7 _ hf
theorem yv_X7_stepWithin : YV yX7_stepWithin cX7_stepWithin 6 (none) 1 := ⟨⟨by decide +kernel, by decide +kernel, by decide +kernel⟩, wd_821, wd_96, wd_819, wd_820⟩
