def lenS : List Nat := [63, 81, 81, 125]
def bytS : List (List Int32) := [[115, 112, 97, 110, 32, 32, 115, 32, 32, 115, 108, 97, 99, 107, 32, 108, 104, 32, 113, 117, 101, 117, 101, 115, 113, 113, 113, 116, 114, 105, 101, 115, 32, 116, 32, 32, 115, 101, 101, 100, 32, 32, 118, 32, 32, 100, 97, 116, 97, 32, 32, 100, 118, 32, 97, 116, 32, 32, 32, 32, 110, 32, 32], [104, 97, 108, 116, 32, 32, 32, 32, 32, 115, 101, 116, 32, 32, 32, 114, 118, 32, 97, 100, 100, 32, 32, 32, 114, 114, 114, 115, 117, 98, 32, 32, 32, 114, 114, 114, 109, 117, 108, 32, 32, 32, 114, 114, 114, 120, 111, 114, 32, 32, 32, 114, 114, 114, 108, 111, 97, 100, 32, 32, 114, 114, 109, 115, 116, 111, 114, 101, 32, 114, 114, 109, 111, 117, 116, 32, 32, 32, 114, 32, 32], [114, 101, 97, 108, 32, 32, 102, 114, 32, 119, 104, 111, 108, 101, 32, 114, 102, 32, 98, 105, 116, 115, 32, 32, 114, 102, 32, 112, 108, 117, 115, 32, 32, 102, 102, 102, 116, 105, 109, 101, 115, 32, 102, 102, 102, 106, 117, 109, 112, 32, 32, 119, 32, 32, 122, 101, 114, 111, 32, 32, 114, 119, 32, 108, 101, 115, 115, 32, 32, 114, 114, 119, 117, 110, 100, 101, 114, 32, 102, 102, 119], [115, 112, 97, 110, 32, 115, 108, 97, 99, 107, 32, 113, 117, 101, 117, 101, 115, 32, 116, 114, 105, 101, 115, 32, 115, 101, 101, 100, 32, 100, 97, 116, 97, 32, 97, 116, 32, 115, 101, 116, 32, 97, 100, 100, 32, 115, 117, 98, 32, 109, 117, 108, 32, 120, 111, 114, 32, 108, 111, 97, 100, 32, 115, 116, 111, 114, 101, 32, 111, 117, 116, 32, 114, 101, 97, 108, 32, 119, 104, 111, 108, 101, 32, 98, 105, 116, 115, 32, 112, 108, 117, 115, 32, 116, 105, 109, 101, 115, 32, 106, 117, 109, 112, 32, 122, 101, 114, 111, 32, 108, 101, 115, 115, 32, 117, 110, 100, 101, 114, 32, 104, 97, 108, 116, 32]]
def nm {α β : Type} (x : α) (b : α → β) : β := b x
theorem nm_of {α β : Type} {x : α} {b : α → Option β} {r : β} (h : nm x b = some r) : ∃ y, y = x ∧ b y = some r := ⟨x, rfl, h⟩
theorem ifp {α : Type} {c : Prop} [Decidable c] {a b r : α} (hc : c) (h : (if c then a else b) = r) : a = r := by rw [if_pos hc] at h; exact h
theorem ifn {α : Type} {c : Prop} [Decidable c] {a b r : α} (hc : ¬ c) (h : (if c then a else b) = r) : b = r := by rw [if_neg hc] at h; exact h
theorem chk_of {α : Type} {c : Prop} [Decidable c] {a : Option α} {r : α} (h : (if c then a else none) = some r) : c ∧ a = some r := by
  by_cases hc : c
  · rw [if_pos hc] at h; exact ⟨hc, h⟩
  · rw [if_neg hc] at h; cases h
def bd {α β : Type} (o : Option α) (k : α → Option β) : Option β := match o with | none => none | some x => k x
theorem bd_of {α β : Type} {o : Option α} {k : α → Option β} {r : β} (h : bd o k = some r) : ∃ x, o = some x ∧ k x = some r := by
  cases o with
  | none => cases h
  | some x => exact ⟨x, rfl, h⟩
abbrev n64 (r : UInt64) : Prop := r &&& 0x7fffffffffffffff ≤ 0x7ff0000000000000
abbrev n32 (r : UInt32) : Prop := r &&& 0x7fffffff ≤ 0x7f800000
abbrev isB (x : Int32) : Prop := x = 0 ∨ x = 1
abbrev ix (i : Int32) (n : Nat) : Prop := ¬ (i < 0 ∨ n ≤ i.toNatClampNeg)
def bd2 {α β γ : Type} (o : Option (α × β)) (k : α → β → Option γ) : Option γ := match o with | none => none | some x => k x.1 x.2
theorem bd2_of {α β γ : Type} {o : Option (α × β)} {k : α → β → Option γ} {r : γ} (h : bd2 o k = some r) : ∃ x y, o = some (x, y) ∧ k x y = some r := by
  cases o with
  | none => cases h
  | some x => exact ⟨x.1, x.2, rfl, h⟩
def bd3 {α β γ δ : Type} (o : Option (α × β × γ)) (k : α → β → γ → Option δ) : Option δ := match o with | none => none | some x => k x.1 x.2.1 x.2.2
theorem bd3_of {α β γ δ : Type} {o : Option (α × β × γ)} {k : α → β → γ → Option δ} {r : δ} (h : bd3 o k = some r) : ∃ x y z, o = some (x, y, z) ∧ k x y z = some r := by
  cases o with
  | none => cases h
  | some x => exact ⟨x.1, x.2.1, x.2.2, rfl, h⟩
def LF : Nat := 100000
def fm_v (x y : Int32) : Int32 := if (x ^^^ y) < 0 then (if x - x / y * y = 0 then x - x / y * y else x - x / y * y + y) else x - x / y * y
abbrev T_Pg : Type := (Nat → Int32) × (Nat → Int32) × (Nat → Int32) × (Nat → Int32) × (Nat → Int32) × (Nat → Int32) × (Nat → Int32) × (Nat → Int32) × Int32 × Int32 × Int32
def Pg_code (v : T_Pg) : (Nat → Int32) := v.1
def Pg_first (v : T_Pg) : (Nat → Int32) := v.2.1
def Pg_second (v : T_Pg) : (Nat → Int32) := v.2.2.1
def Pg_third (v : T_Pg) : (Nat → Int32) := v.2.2.2.1
def Pg_rules (v : T_Pg) : (Nat → Int32) := v.2.2.2.2.1
def Pg_data (v : T_Pg) : (Nat → Int32) := v.2.2.2.2.2.1
def Pg_names (v : T_Pg) : (Nat → Int32) := v.2.2.2.2.2.2.1
def Pg_namedPlaces (v : T_Pg) : (Nat → Int32) := v.2.2.2.2.2.2.2.1
def Pg_nameCount (v : T_Pg) : Int32 := v.2.2.2.2.2.2.2.2.1
def Pg_size (v : T_Pg) : Int32 := v.2.2.2.2.2.2.2.2.2.1
def Pg_lines (v : T_Pg) : Int32 := v.2.2.2.2.2.2.2.2.2.2
theorem Pg_code_mk {a0 : (Nat → Int32)} {a1 : (Nat → Int32)} {a2 : (Nat → Int32)} {a3 : (Nat → Int32)} {a4 : (Nat → Int32)} {a5 : (Nat → Int32)} {a6 : (Nat → Int32)} {a7 : (Nat → Int32)} {a8 : Int32} {a9 : Int32} {a10 : Int32} : Pg_code (a0, a1, a2, a3, a4, a5, a6, a7, a8, a9, a10) = a0 := rfl
theorem Pg_first_mk {a0 : (Nat → Int32)} {a1 : (Nat → Int32)} {a2 : (Nat → Int32)} {a3 : (Nat → Int32)} {a4 : (Nat → Int32)} {a5 : (Nat → Int32)} {a6 : (Nat → Int32)} {a7 : (Nat → Int32)} {a8 : Int32} {a9 : Int32} {a10 : Int32} : Pg_first (a0, a1, a2, a3, a4, a5, a6, a7, a8, a9, a10) = a1 := rfl
theorem Pg_second_mk {a0 : (Nat → Int32)} {a1 : (Nat → Int32)} {a2 : (Nat → Int32)} {a3 : (Nat → Int32)} {a4 : (Nat → Int32)} {a5 : (Nat → Int32)} {a6 : (Nat → Int32)} {a7 : (Nat → Int32)} {a8 : Int32} {a9 : Int32} {a10 : Int32} : Pg_second (a0, a1, a2, a3, a4, a5, a6, a7, a8, a9, a10) = a2 := rfl
theorem Pg_third_mk {a0 : (Nat → Int32)} {a1 : (Nat → Int32)} {a2 : (Nat → Int32)} {a3 : (Nat → Int32)} {a4 : (Nat → Int32)} {a5 : (Nat → Int32)} {a6 : (Nat → Int32)} {a7 : (Nat → Int32)} {a8 : Int32} {a9 : Int32} {a10 : Int32} : Pg_third (a0, a1, a2, a3, a4, a5, a6, a7, a8, a9, a10) = a3 := rfl
theorem Pg_rules_mk {a0 : (Nat → Int32)} {a1 : (Nat → Int32)} {a2 : (Nat → Int32)} {a3 : (Nat → Int32)} {a4 : (Nat → Int32)} {a5 : (Nat → Int32)} {a6 : (Nat → Int32)} {a7 : (Nat → Int32)} {a8 : Int32} {a9 : Int32} {a10 : Int32} : Pg_rules (a0, a1, a2, a3, a4, a5, a6, a7, a8, a9, a10) = a4 := rfl
theorem Pg_data_mk {a0 : (Nat → Int32)} {a1 : (Nat → Int32)} {a2 : (Nat → Int32)} {a3 : (Nat → Int32)} {a4 : (Nat → Int32)} {a5 : (Nat → Int32)} {a6 : (Nat → Int32)} {a7 : (Nat → Int32)} {a8 : Int32} {a9 : Int32} {a10 : Int32} : Pg_data (a0, a1, a2, a3, a4, a5, a6, a7, a8, a9, a10) = a5 := rfl
theorem Pg_names_mk {a0 : (Nat → Int32)} {a1 : (Nat → Int32)} {a2 : (Nat → Int32)} {a3 : (Nat → Int32)} {a4 : (Nat → Int32)} {a5 : (Nat → Int32)} {a6 : (Nat → Int32)} {a7 : (Nat → Int32)} {a8 : Int32} {a9 : Int32} {a10 : Int32} : Pg_names (a0, a1, a2, a3, a4, a5, a6, a7, a8, a9, a10) = a6 := rfl
theorem Pg_namedPlaces_mk {a0 : (Nat → Int32)} {a1 : (Nat → Int32)} {a2 : (Nat → Int32)} {a3 : (Nat → Int32)} {a4 : (Nat → Int32)} {a5 : (Nat → Int32)} {a6 : (Nat → Int32)} {a7 : (Nat → Int32)} {a8 : Int32} {a9 : Int32} {a10 : Int32} : Pg_namedPlaces (a0, a1, a2, a3, a4, a5, a6, a7, a8, a9, a10) = a7 := rfl
theorem Pg_nameCount_mk {a0 : (Nat → Int32)} {a1 : (Nat → Int32)} {a2 : (Nat → Int32)} {a3 : (Nat → Int32)} {a4 : (Nat → Int32)} {a5 : (Nat → Int32)} {a6 : (Nat → Int32)} {a7 : (Nat → Int32)} {a8 : Int32} {a9 : Int32} {a10 : Int32} : Pg_nameCount (a0, a1, a2, a3, a4, a5, a6, a7, a8, a9, a10) = a8 := rfl
theorem Pg_size_mk {a0 : (Nat → Int32)} {a1 : (Nat → Int32)} {a2 : (Nat → Int32)} {a3 : (Nat → Int32)} {a4 : (Nat → Int32)} {a5 : (Nat → Int32)} {a6 : (Nat → Int32)} {a7 : (Nat → Int32)} {a8 : Int32} {a9 : Int32} {a10 : Int32} : Pg_size (a0, a1, a2, a3, a4, a5, a6, a7, a8, a9, a10) = a9 := rfl
theorem Pg_lines_mk {a0 : (Nat → Int32)} {a1 : (Nat → Int32)} {a2 : (Nat → Int32)} {a3 : (Nat → Int32)} {a4 : (Nat → Int32)} {a5 : (Nat → Int32)} {a6 : (Nat → Int32)} {a7 : (Nat → Int32)} {a8 : Int32} {a9 : Int32} {a10 : Int32} : Pg_lines (a0, a1, a2, a3, a4, a5, a6, a7, a8, a9, a10) = a10 := rfl
abbrev T_Qu : Type := (Nat → Int32) × (Nat → Int32) × (Nat → Int32) × (Nat → Int32) × (Nat → Int32) × (Nat → Int32) × (Nat → Int32) × Int32 × Int32 × Int32 × Int32 × Int32 × Int32
def Qu_loadAddress (v : T_Qu) : (Nat → Int32) := v.1
def Qu_loadWord (v : T_Qu) : (Nat → Int32) := v.2.1
def Qu_branch (v : T_Qu) : (Nat → Int32) := v.2.2.1
def Qu_heldAddress (v : T_Qu) : (Nat → Int32) := v.2.2.2.1
def Qu_heldWord (v : T_Qu) : (Nat → Int32) := v.2.2.2.2.1
def Qu_besideAddress (v : T_Qu) : (Nat → Int32) := v.2.2.2.2.2.1
def Qu_besideWord (v : T_Qu) : (Nat → Int32) := v.2.2.2.2.2.2.1
def Qu_firstLoad (v : T_Qu) : Int32 := v.2.2.2.2.2.2.2.1
def Qu_loads (v : T_Qu) : Int32 := v.2.2.2.2.2.2.2.2.1
def Qu_firstBranch (v : T_Qu) : Int32 := v.2.2.2.2.2.2.2.2.2.1
def Qu_branches (v : T_Qu) : Int32 := v.2.2.2.2.2.2.2.2.2.2.1
def Qu_held (v : T_Qu) : Int32 := v.2.2.2.2.2.2.2.2.2.2.2.1
def Qu_comparedHeld (v : T_Qu) : Int32 := v.2.2.2.2.2.2.2.2.2.2.2.2
theorem Qu_loadAddress_mk {a0 : (Nat → Int32)} {a1 : (Nat → Int32)} {a2 : (Nat → Int32)} {a3 : (Nat → Int32)} {a4 : (Nat → Int32)} {a5 : (Nat → Int32)} {a6 : (Nat → Int32)} {a7 : Int32} {a8 : Int32} {a9 : Int32} {a10 : Int32} {a11 : Int32} {a12 : Int32} : Qu_loadAddress (a0, a1, a2, a3, a4, a5, a6, a7, a8, a9, a10, a11, a12) = a0 := rfl
theorem Qu_loadWord_mk {a0 : (Nat → Int32)} {a1 : (Nat → Int32)} {a2 : (Nat → Int32)} {a3 : (Nat → Int32)} {a4 : (Nat → Int32)} {a5 : (Nat → Int32)} {a6 : (Nat → Int32)} {a7 : Int32} {a8 : Int32} {a9 : Int32} {a10 : Int32} {a11 : Int32} {a12 : Int32} : Qu_loadWord (a0, a1, a2, a3, a4, a5, a6, a7, a8, a9, a10, a11, a12) = a1 := rfl
theorem Qu_branch_mk {a0 : (Nat → Int32)} {a1 : (Nat → Int32)} {a2 : (Nat → Int32)} {a3 : (Nat → Int32)} {a4 : (Nat → Int32)} {a5 : (Nat → Int32)} {a6 : (Nat → Int32)} {a7 : Int32} {a8 : Int32} {a9 : Int32} {a10 : Int32} {a11 : Int32} {a12 : Int32} : Qu_branch (a0, a1, a2, a3, a4, a5, a6, a7, a8, a9, a10, a11, a12) = a2 := rfl
theorem Qu_heldAddress_mk {a0 : (Nat → Int32)} {a1 : (Nat → Int32)} {a2 : (Nat → Int32)} {a3 : (Nat → Int32)} {a4 : (Nat → Int32)} {a5 : (Nat → Int32)} {a6 : (Nat → Int32)} {a7 : Int32} {a8 : Int32} {a9 : Int32} {a10 : Int32} {a11 : Int32} {a12 : Int32} : Qu_heldAddress (a0, a1, a2, a3, a4, a5, a6, a7, a8, a9, a10, a11, a12) = a3 := rfl
theorem Qu_heldWord_mk {a0 : (Nat → Int32)} {a1 : (Nat → Int32)} {a2 : (Nat → Int32)} {a3 : (Nat → Int32)} {a4 : (Nat → Int32)} {a5 : (Nat → Int32)} {a6 : (Nat → Int32)} {a7 : Int32} {a8 : Int32} {a9 : Int32} {a10 : Int32} {a11 : Int32} {a12 : Int32} : Qu_heldWord (a0, a1, a2, a3, a4, a5, a6, a7, a8, a9, a10, a11, a12) = a4 := rfl
theorem Qu_besideAddress_mk {a0 : (Nat → Int32)} {a1 : (Nat → Int32)} {a2 : (Nat → Int32)} {a3 : (Nat → Int32)} {a4 : (Nat → Int32)} {a5 : (Nat → Int32)} {a6 : (Nat → Int32)} {a7 : Int32} {a8 : Int32} {a9 : Int32} {a10 : Int32} {a11 : Int32} {a12 : Int32} : Qu_besideAddress (a0, a1, a2, a3, a4, a5, a6, a7, a8, a9, a10, a11, a12) = a5 := rfl
theorem Qu_besideWord_mk {a0 : (Nat → Int32)} {a1 : (Nat → Int32)} {a2 : (Nat → Int32)} {a3 : (Nat → Int32)} {a4 : (Nat → Int32)} {a5 : (Nat → Int32)} {a6 : (Nat → Int32)} {a7 : Int32} {a8 : Int32} {a9 : Int32} {a10 : Int32} {a11 : Int32} {a12 : Int32} : Qu_besideWord (a0, a1, a2, a3, a4, a5, a6, a7, a8, a9, a10, a11, a12) = a6 := rfl
theorem Qu_firstLoad_mk {a0 : (Nat → Int32)} {a1 : (Nat → Int32)} {a2 : (Nat → Int32)} {a3 : (Nat → Int32)} {a4 : (Nat → Int32)} {a5 : (Nat → Int32)} {a6 : (Nat → Int32)} {a7 : Int32} {a8 : Int32} {a9 : Int32} {a10 : Int32} {a11 : Int32} {a12 : Int32} : Qu_firstLoad (a0, a1, a2, a3, a4, a5, a6, a7, a8, a9, a10, a11, a12) = a7 := rfl
theorem Qu_loads_mk {a0 : (Nat → Int32)} {a1 : (Nat → Int32)} {a2 : (Nat → Int32)} {a3 : (Nat → Int32)} {a4 : (Nat → Int32)} {a5 : (Nat → Int32)} {a6 : (Nat → Int32)} {a7 : Int32} {a8 : Int32} {a9 : Int32} {a10 : Int32} {a11 : Int32} {a12 : Int32} : Qu_loads (a0, a1, a2, a3, a4, a5, a6, a7, a8, a9, a10, a11, a12) = a8 := rfl
theorem Qu_firstBranch_mk {a0 : (Nat → Int32)} {a1 : (Nat → Int32)} {a2 : (Nat → Int32)} {a3 : (Nat → Int32)} {a4 : (Nat → Int32)} {a5 : (Nat → Int32)} {a6 : (Nat → Int32)} {a7 : Int32} {a8 : Int32} {a9 : Int32} {a10 : Int32} {a11 : Int32} {a12 : Int32} : Qu_firstBranch (a0, a1, a2, a3, a4, a5, a6, a7, a8, a9, a10, a11, a12) = a9 := rfl
theorem Qu_branches_mk {a0 : (Nat → Int32)} {a1 : (Nat → Int32)} {a2 : (Nat → Int32)} {a3 : (Nat → Int32)} {a4 : (Nat → Int32)} {a5 : (Nat → Int32)} {a6 : (Nat → Int32)} {a7 : Int32} {a8 : Int32} {a9 : Int32} {a10 : Int32} {a11 : Int32} {a12 : Int32} : Qu_branches (a0, a1, a2, a3, a4, a5, a6, a7, a8, a9, a10, a11, a12) = a10 := rfl
theorem Qu_held_mk {a0 : (Nat → Int32)} {a1 : (Nat → Int32)} {a2 : (Nat → Int32)} {a3 : (Nat → Int32)} {a4 : (Nat → Int32)} {a5 : (Nat → Int32)} {a6 : (Nat → Int32)} {a7 : Int32} {a8 : Int32} {a9 : Int32} {a10 : Int32} {a11 : Int32} {a12 : Int32} : Qu_held (a0, a1, a2, a3, a4, a5, a6, a7, a8, a9, a10, a11, a12) = a11 := rfl
theorem Qu_comparedHeld_mk {a0 : (Nat → Int32)} {a1 : (Nat → Int32)} {a2 : (Nat → Int32)} {a3 : (Nat → Int32)} {a4 : (Nat → Int32)} {a5 : (Nat → Int32)} {a6 : (Nat → Int32)} {a7 : Int32} {a8 : Int32} {a9 : Int32} {a10 : Int32} {a11 : Int32} {a12 : Int32} : Qu_comparedHeld (a0, a1, a2, a3, a4, a5, a6, a7, a8, a9, a10, a11, a12) = a12 := rfl
abbrev T_Rd : Type := (Nat → Int32) × Int32 × Int32 × Int32 × (Nat → Int32) × (Nat → Int32) × (Nat → Int32) × (Nat → Int32) × Int32 × Int32 × Int32 × Int32 × Int32 × Int32 × Int32
def Rd_tape (v : T_Rd) : (Nat → Int32) := v.1
def Rd_filled (v : T_Rd) : Int32 := v.2.1
def Rd_fault (v : T_Rd) : Int32 := v.2.2.1
def Rd_faultPlace (v : T_Rd) : Int32 := v.2.2.2.1
def Rd_words (v : T_Rd) : (Nat → Int32) := v.2.2.2.2.1
def Rd_sorts (v : T_Rd) : (Nat → Int32) := v.2.2.2.2.2.1
def Rd_parts (v : T_Rd) : (Nat → Int32) := v.2.2.2.2.2.2.1
def Rd_wantedPlaces (v : T_Rd) : (Nat → Int32) := v.2.2.2.2.2.2.2.1
def Rd_limit (v : T_Rd) : Int32 := v.2.2.2.2.2.2.2.2.1
def Rd_position (v : T_Rd) : Int32 := v.2.2.2.2.2.2.2.2.2.1
def Rd_token (v : T_Rd) : Int32 := v.2.2.2.2.2.2.2.2.2.2.1
def Rd_value (v : T_Rd) : Int32 := v.2.2.2.2.2.2.2.2.2.2.2.1
def Rd_place (v : T_Rd) : Int32 := v.2.2.2.2.2.2.2.2.2.2.2.2.1
def Rd_toldRules (v : T_Rd) : Int32 := v.2.2.2.2.2.2.2.2.2.2.2.2.2.1
def Rd_toldData (v : T_Rd) : Int32 := v.2.2.2.2.2.2.2.2.2.2.2.2.2.2
theorem Rd_tape_mk {a0 : (Nat → Int32)} {a1 : Int32} {a2 : Int32} {a3 : Int32} {a4 : (Nat → Int32)} {a5 : (Nat → Int32)} {a6 : (Nat → Int32)} {a7 : (Nat → Int32)} {a8 : Int32} {a9 : Int32} {a10 : Int32} {a11 : Int32} {a12 : Int32} {a13 : Int32} {a14 : Int32} : Rd_tape (a0, a1, a2, a3, a4, a5, a6, a7, a8, a9, a10, a11, a12, a13, a14) = a0 := rfl
theorem Rd_filled_mk {a0 : (Nat → Int32)} {a1 : Int32} {a2 : Int32} {a3 : Int32} {a4 : (Nat → Int32)} {a5 : (Nat → Int32)} {a6 : (Nat → Int32)} {a7 : (Nat → Int32)} {a8 : Int32} {a9 : Int32} {a10 : Int32} {a11 : Int32} {a12 : Int32} {a13 : Int32} {a14 : Int32} : Rd_filled (a0, a1, a2, a3, a4, a5, a6, a7, a8, a9, a10, a11, a12, a13, a14) = a1 := rfl
theorem Rd_fault_mk {a0 : (Nat → Int32)} {a1 : Int32} {a2 : Int32} {a3 : Int32} {a4 : (Nat → Int32)} {a5 : (Nat → Int32)} {a6 : (Nat → Int32)} {a7 : (Nat → Int32)} {a8 : Int32} {a9 : Int32} {a10 : Int32} {a11 : Int32} {a12 : Int32} {a13 : Int32} {a14 : Int32} : Rd_fault (a0, a1, a2, a3, a4, a5, a6, a7, a8, a9, a10, a11, a12, a13, a14) = a2 := rfl
theorem Rd_faultPlace_mk {a0 : (Nat → Int32)} {a1 : Int32} {a2 : Int32} {a3 : Int32} {a4 : (Nat → Int32)} {a5 : (Nat → Int32)} {a6 : (Nat → Int32)} {a7 : (Nat → Int32)} {a8 : Int32} {a9 : Int32} {a10 : Int32} {a11 : Int32} {a12 : Int32} {a13 : Int32} {a14 : Int32} : Rd_faultPlace (a0, a1, a2, a3, a4, a5, a6, a7, a8, a9, a10, a11, a12, a13, a14) = a3 := rfl
theorem Rd_words_mk {a0 : (Nat → Int32)} {a1 : Int32} {a2 : Int32} {a3 : Int32} {a4 : (Nat → Int32)} {a5 : (Nat → Int32)} {a6 : (Nat → Int32)} {a7 : (Nat → Int32)} {a8 : Int32} {a9 : Int32} {a10 : Int32} {a11 : Int32} {a12 : Int32} {a13 : Int32} {a14 : Int32} : Rd_words (a0, a1, a2, a3, a4, a5, a6, a7, a8, a9, a10, a11, a12, a13, a14) = a4 := rfl
theorem Rd_sorts_mk {a0 : (Nat → Int32)} {a1 : Int32} {a2 : Int32} {a3 : Int32} {a4 : (Nat → Int32)} {a5 : (Nat → Int32)} {a6 : (Nat → Int32)} {a7 : (Nat → Int32)} {a8 : Int32} {a9 : Int32} {a10 : Int32} {a11 : Int32} {a12 : Int32} {a13 : Int32} {a14 : Int32} : Rd_sorts (a0, a1, a2, a3, a4, a5, a6, a7, a8, a9, a10, a11, a12, a13, a14) = a5 := rfl
theorem Rd_parts_mk {a0 : (Nat → Int32)} {a1 : Int32} {a2 : Int32} {a3 : Int32} {a4 : (Nat → Int32)} {a5 : (Nat → Int32)} {a6 : (Nat → Int32)} {a7 : (Nat → Int32)} {a8 : Int32} {a9 : Int32} {a10 : Int32} {a11 : Int32} {a12 : Int32} {a13 : Int32} {a14 : Int32} : Rd_parts (a0, a1, a2, a3, a4, a5, a6, a7, a8, a9, a10, a11, a12, a13, a14) = a6 := rfl
theorem Rd_wantedPlaces_mk {a0 : (Nat → Int32)} {a1 : Int32} {a2 : Int32} {a3 : Int32} {a4 : (Nat → Int32)} {a5 : (Nat → Int32)} {a6 : (Nat → Int32)} {a7 : (Nat → Int32)} {a8 : Int32} {a9 : Int32} {a10 : Int32} {a11 : Int32} {a12 : Int32} {a13 : Int32} {a14 : Int32} : Rd_wantedPlaces (a0, a1, a2, a3, a4, a5, a6, a7, a8, a9, a10, a11, a12, a13, a14) = a7 := rfl
theorem Rd_limit_mk {a0 : (Nat → Int32)} {a1 : Int32} {a2 : Int32} {a3 : Int32} {a4 : (Nat → Int32)} {a5 : (Nat → Int32)} {a6 : (Nat → Int32)} {a7 : (Nat → Int32)} {a8 : Int32} {a9 : Int32} {a10 : Int32} {a11 : Int32} {a12 : Int32} {a13 : Int32} {a14 : Int32} : Rd_limit (a0, a1, a2, a3, a4, a5, a6, a7, a8, a9, a10, a11, a12, a13, a14) = a8 := rfl
theorem Rd_position_mk {a0 : (Nat → Int32)} {a1 : Int32} {a2 : Int32} {a3 : Int32} {a4 : (Nat → Int32)} {a5 : (Nat → Int32)} {a6 : (Nat → Int32)} {a7 : (Nat → Int32)} {a8 : Int32} {a9 : Int32} {a10 : Int32} {a11 : Int32} {a12 : Int32} {a13 : Int32} {a14 : Int32} : Rd_position (a0, a1, a2, a3, a4, a5, a6, a7, a8, a9, a10, a11, a12, a13, a14) = a9 := rfl
theorem Rd_token_mk {a0 : (Nat → Int32)} {a1 : Int32} {a2 : Int32} {a3 : Int32} {a4 : (Nat → Int32)} {a5 : (Nat → Int32)} {a6 : (Nat → Int32)} {a7 : (Nat → Int32)} {a8 : Int32} {a9 : Int32} {a10 : Int32} {a11 : Int32} {a12 : Int32} {a13 : Int32} {a14 : Int32} : Rd_token (a0, a1, a2, a3, a4, a5, a6, a7, a8, a9, a10, a11, a12, a13, a14) = a10 := rfl
theorem Rd_value_mk {a0 : (Nat → Int32)} {a1 : Int32} {a2 : Int32} {a3 : Int32} {a4 : (Nat → Int32)} {a5 : (Nat → Int32)} {a6 : (Nat → Int32)} {a7 : (Nat → Int32)} {a8 : Int32} {a9 : Int32} {a10 : Int32} {a11 : Int32} {a12 : Int32} {a13 : Int32} {a14 : Int32} : Rd_value (a0, a1, a2, a3, a4, a5, a6, a7, a8, a9, a10, a11, a12, a13, a14) = a11 := rfl
theorem Rd_place_mk {a0 : (Nat → Int32)} {a1 : Int32} {a2 : Int32} {a3 : Int32} {a4 : (Nat → Int32)} {a5 : (Nat → Int32)} {a6 : (Nat → Int32)} {a7 : (Nat → Int32)} {a8 : Int32} {a9 : Int32} {a10 : Int32} {a11 : Int32} {a12 : Int32} {a13 : Int32} {a14 : Int32} : Rd_place (a0, a1, a2, a3, a4, a5, a6, a7, a8, a9, a10, a11, a12, a13, a14) = a12 := rfl
theorem Rd_toldRules_mk {a0 : (Nat → Int32)} {a1 : Int32} {a2 : Int32} {a3 : Int32} {a4 : (Nat → Int32)} {a5 : (Nat → Int32)} {a6 : (Nat → Int32)} {a7 : (Nat → Int32)} {a8 : Int32} {a9 : Int32} {a10 : Int32} {a11 : Int32} {a12 : Int32} {a13 : Int32} {a14 : Int32} : Rd_toldRules (a0, a1, a2, a3, a4, a5, a6, a7, a8, a9, a10, a11, a12, a13, a14) = a13 := rfl
theorem Rd_toldData_mk {a0 : (Nat → Int32)} {a1 : Int32} {a2 : Int32} {a3 : Int32} {a4 : (Nat → Int32)} {a5 : (Nat → Int32)} {a6 : (Nat → Int32)} {a7 : (Nat → Int32)} {a8 : Int32} {a9 : Int32} {a10 : Int32} {a11 : Int32} {a12 : Int32} {a13 : Int32} {a14 : Int32} : Rd_toldData (a0, a1, a2, a3, a4, a5, a6, a7, a8, a9, a10, a11, a12, a13, a14) = a14 := rfl
abbrev T_St : Type := (Nat → Int32) × (Nat → Int32) × (Nat → Int32) × (Nat → Int32) × Int32 × Int32
def St_registers (v : T_St) : (Nat → Int32) := v.1
def St_floats (v : T_St) : (Nat → Int32) := v.2.1
def St_stuckMask (v : T_St) : (Nat → Int32) := v.2.2.1
def St_stuckOnes (v : T_St) : (Nat → Int32) := v.2.2.2.1
def St_place (v : T_St) : Int32 := v.2.2.2.2.1
def St_steps (v : T_St) : Int32 := v.2.2.2.2.2
theorem St_registers_mk {a0 : (Nat → Int32)} {a1 : (Nat → Int32)} {a2 : (Nat → Int32)} {a3 : (Nat → Int32)} {a4 : Int32} {a5 : Int32} : St_registers (a0, a1, a2, a3, a4, a5) = a0 := rfl
theorem St_floats_mk {a0 : (Nat → Int32)} {a1 : (Nat → Int32)} {a2 : (Nat → Int32)} {a3 : (Nat → Int32)} {a4 : Int32} {a5 : Int32} : St_floats (a0, a1, a2, a3, a4, a5) = a1 := rfl
theorem St_stuckMask_mk {a0 : (Nat → Int32)} {a1 : (Nat → Int32)} {a2 : (Nat → Int32)} {a3 : (Nat → Int32)} {a4 : Int32} {a5 : Int32} : St_stuckMask (a0, a1, a2, a3, a4, a5) = a2 := rfl
theorem St_stuckOnes_mk {a0 : (Nat → Int32)} {a1 : (Nat → Int32)} {a2 : (Nat → Int32)} {a3 : (Nat → Int32)} {a4 : Int32} {a5 : Int32} : St_stuckOnes (a0, a1, a2, a3, a4, a5) = a3 := rfl
theorem St_place_mk {a0 : (Nat → Int32)} {a1 : (Nat → Int32)} {a2 : (Nat → Int32)} {a3 : (Nat → Int32)} {a4 : Int32} {a5 : Int32} : St_place (a0, a1, a2, a3, a4, a5) = a4 := rfl
theorem St_steps_mk {a0 : (Nat → Int32)} {a1 : (Nat → Int32)} {a2 : (Nat → Int32)} {a3 : (Nat → Int32)} {a4 : Int32} {a5 : Int32} : St_steps (a0, a1, a2, a3, a4, a5) = a5 := rfl
abbrev T_Ta : Type := (Nat → Int32) × (Nat → Int32) × (Nat → Int32) × (Nat → Int32) × Int32 × Int32 × Int32 × Int32 × Int32 × Int32 × Int32 × Int32 × Int32
def Ta_alarmSort (v : T_Ta) : (Nat → Int32) := v.1
def Ta_alarmTurn (v : T_Ta) : (Nat → Int32) := v.2.1
def Ta_alarmLeaderSteps (v : T_Ta) : (Nat → Int32) := v.2.2.1
def Ta_alarmTrailerSteps (v : T_Ta) : (Nat → Int32) := v.2.2.2.1
def Ta_turns (v : T_Ta) : Int32 := v.2.2.2.2.1
def Ta_points (v : T_Ta) : Int32 := v.2.2.2.2.2.1
def Ta_alarms (v : T_Ta) : Int32 := v.2.2.2.2.2.2.1
def Ta_alarmsSincePoint (v : T_Ta) : Int32 := v.2.2.2.2.2.2.2.1
def Ta_greatestAhead (v : T_Ta) : Int32 := v.2.2.2.2.2.2.2.2.1
def Ta_aheadSum (v : T_Ta) : Int32 := v.2.2.2.2.2.2.2.2.2.1
def Ta_leaderTurns (v : T_Ta) : Int32 := v.2.2.2.2.2.2.2.2.2.2.1
def Ta_trailerTurns (v : T_Ta) : Int32 := v.2.2.2.2.2.2.2.2.2.2.2.1
def Ta_comparedSteps (v : T_Ta) : Int32 := v.2.2.2.2.2.2.2.2.2.2.2.2
theorem Ta_alarmSort_mk {a0 : (Nat → Int32)} {a1 : (Nat → Int32)} {a2 : (Nat → Int32)} {a3 : (Nat → Int32)} {a4 : Int32} {a5 : Int32} {a6 : Int32} {a7 : Int32} {a8 : Int32} {a9 : Int32} {a10 : Int32} {a11 : Int32} {a12 : Int32} : Ta_alarmSort (a0, a1, a2, a3, a4, a5, a6, a7, a8, a9, a10, a11, a12) = a0 := rfl
theorem Ta_alarmTurn_mk {a0 : (Nat → Int32)} {a1 : (Nat → Int32)} {a2 : (Nat → Int32)} {a3 : (Nat → Int32)} {a4 : Int32} {a5 : Int32} {a6 : Int32} {a7 : Int32} {a8 : Int32} {a9 : Int32} {a10 : Int32} {a11 : Int32} {a12 : Int32} : Ta_alarmTurn (a0, a1, a2, a3, a4, a5, a6, a7, a8, a9, a10, a11, a12) = a1 := rfl
theorem Ta_alarmLeaderSteps_mk {a0 : (Nat → Int32)} {a1 : (Nat → Int32)} {a2 : (Nat → Int32)} {a3 : (Nat → Int32)} {a4 : Int32} {a5 : Int32} {a6 : Int32} {a7 : Int32} {a8 : Int32} {a9 : Int32} {a10 : Int32} {a11 : Int32} {a12 : Int32} : Ta_alarmLeaderSteps (a0, a1, a2, a3, a4, a5, a6, a7, a8, a9, a10, a11, a12) = a2 := rfl
theorem Ta_alarmTrailerSteps_mk {a0 : (Nat → Int32)} {a1 : (Nat → Int32)} {a2 : (Nat → Int32)} {a3 : (Nat → Int32)} {a4 : Int32} {a5 : Int32} {a6 : Int32} {a7 : Int32} {a8 : Int32} {a9 : Int32} {a10 : Int32} {a11 : Int32} {a12 : Int32} : Ta_alarmTrailerSteps (a0, a1, a2, a3, a4, a5, a6, a7, a8, a9, a10, a11, a12) = a3 := rfl
theorem Ta_turns_mk {a0 : (Nat → Int32)} {a1 : (Nat → Int32)} {a2 : (Nat → Int32)} {a3 : (Nat → Int32)} {a4 : Int32} {a5 : Int32} {a6 : Int32} {a7 : Int32} {a8 : Int32} {a9 : Int32} {a10 : Int32} {a11 : Int32} {a12 : Int32} : Ta_turns (a0, a1, a2, a3, a4, a5, a6, a7, a8, a9, a10, a11, a12) = a4 := rfl
theorem Ta_points_mk {a0 : (Nat → Int32)} {a1 : (Nat → Int32)} {a2 : (Nat → Int32)} {a3 : (Nat → Int32)} {a4 : Int32} {a5 : Int32} {a6 : Int32} {a7 : Int32} {a8 : Int32} {a9 : Int32} {a10 : Int32} {a11 : Int32} {a12 : Int32} : Ta_points (a0, a1, a2, a3, a4, a5, a6, a7, a8, a9, a10, a11, a12) = a5 := rfl
theorem Ta_alarms_mk {a0 : (Nat → Int32)} {a1 : (Nat → Int32)} {a2 : (Nat → Int32)} {a3 : (Nat → Int32)} {a4 : Int32} {a5 : Int32} {a6 : Int32} {a7 : Int32} {a8 : Int32} {a9 : Int32} {a10 : Int32} {a11 : Int32} {a12 : Int32} : Ta_alarms (a0, a1, a2, a3, a4, a5, a6, a7, a8, a9, a10, a11, a12) = a6 := rfl
theorem Ta_alarmsSincePoint_mk {a0 : (Nat → Int32)} {a1 : (Nat → Int32)} {a2 : (Nat → Int32)} {a3 : (Nat → Int32)} {a4 : Int32} {a5 : Int32} {a6 : Int32} {a7 : Int32} {a8 : Int32} {a9 : Int32} {a10 : Int32} {a11 : Int32} {a12 : Int32} : Ta_alarmsSincePoint (a0, a1, a2, a3, a4, a5, a6, a7, a8, a9, a10, a11, a12) = a7 := rfl
theorem Ta_greatestAhead_mk {a0 : (Nat → Int32)} {a1 : (Nat → Int32)} {a2 : (Nat → Int32)} {a3 : (Nat → Int32)} {a4 : Int32} {a5 : Int32} {a6 : Int32} {a7 : Int32} {a8 : Int32} {a9 : Int32} {a10 : Int32} {a11 : Int32} {a12 : Int32} : Ta_greatestAhead (a0, a1, a2, a3, a4, a5, a6, a7, a8, a9, a10, a11, a12) = a8 := rfl
theorem Ta_aheadSum_mk {a0 : (Nat → Int32)} {a1 : (Nat → Int32)} {a2 : (Nat → Int32)} {a3 : (Nat → Int32)} {a4 : Int32} {a5 : Int32} {a6 : Int32} {a7 : Int32} {a8 : Int32} {a9 : Int32} {a10 : Int32} {a11 : Int32} {a12 : Int32} : Ta_aheadSum (a0, a1, a2, a3, a4, a5, a6, a7, a8, a9, a10, a11, a12) = a9 := rfl
theorem Ta_leaderTurns_mk {a0 : (Nat → Int32)} {a1 : (Nat → Int32)} {a2 : (Nat → Int32)} {a3 : (Nat → Int32)} {a4 : Int32} {a5 : Int32} {a6 : Int32} {a7 : Int32} {a8 : Int32} {a9 : Int32} {a10 : Int32} {a11 : Int32} {a12 : Int32} : Ta_leaderTurns (a0, a1, a2, a3, a4, a5, a6, a7, a8, a9, a10, a11, a12) = a10 := rfl
theorem Ta_trailerTurns_mk {a0 : (Nat → Int32)} {a1 : (Nat → Int32)} {a2 : (Nat → Int32)} {a3 : (Nat → Int32)} {a4 : Int32} {a5 : Int32} {a6 : Int32} {a7 : Int32} {a8 : Int32} {a9 : Int32} {a10 : Int32} {a11 : Int32} {a12 : Int32} : Ta_trailerTurns (a0, a1, a2, a3, a4, a5, a6, a7, a8, a9, a10, a11, a12) = a11 := rfl
theorem Ta_comparedSteps_mk {a0 : (Nat → Int32)} {a1 : (Nat → Int32)} {a2 : (Nat → Int32)} {a3 : (Nat → Int32)} {a4 : Int32} {a5 : Int32} {a6 : Int32} {a7 : Int32} {a8 : Int32} {a9 : Int32} {a10 : Int32} {a11 : Int32} {a12 : Int32} : Ta_comparedSteps (a0, a1, a2, a3, a4, a5, a6, a7, a8, a9, a10, a11, a12) = a12 := rfl
abbrev T_Ou : Type := (Nat → Int32) × (Nat → Int32) × (Nat → Int32) × (Nat → Int32) × (Nat → Int32) × Int32 × Int32
def Ou_memory (v : T_Ou) : (Nat → Int32) := v.1
def Ou_output (v : T_Ou) : (Nat → Int32) := v.2.1
def Ou_leftAddress (v : T_Ou) : (Nat → Int32) := v.2.2.1
def Ou_leftWord (v : T_Ou) : (Nat → Int32) := v.2.2.2.1
def Ou_leftPoint (v : T_Ou) : (Nat → Int32) := v.2.2.2.2.1
def Ou_stores (v : T_Ou) : Int32 := v.2.2.2.2.2.1
def Ou_outputs (v : T_Ou) : Int32 := v.2.2.2.2.2.2
theorem Ou_memory_mk {a0 : (Nat → Int32)} {a1 : (Nat → Int32)} {a2 : (Nat → Int32)} {a3 : (Nat → Int32)} {a4 : (Nat → Int32)} {a5 : Int32} {a6 : Int32} : Ou_memory (a0, a1, a2, a3, a4, a5, a6) = a0 := rfl
theorem Ou_output_mk {a0 : (Nat → Int32)} {a1 : (Nat → Int32)} {a2 : (Nat → Int32)} {a3 : (Nat → Int32)} {a4 : (Nat → Int32)} {a5 : Int32} {a6 : Int32} : Ou_output (a0, a1, a2, a3, a4, a5, a6) = a1 := rfl
theorem Ou_leftAddress_mk {a0 : (Nat → Int32)} {a1 : (Nat → Int32)} {a2 : (Nat → Int32)} {a3 : (Nat → Int32)} {a4 : (Nat → Int32)} {a5 : Int32} {a6 : Int32} : Ou_leftAddress (a0, a1, a2, a3, a4, a5, a6) = a2 := rfl
theorem Ou_leftWord_mk {a0 : (Nat → Int32)} {a1 : (Nat → Int32)} {a2 : (Nat → Int32)} {a3 : (Nat → Int32)} {a4 : (Nat → Int32)} {a5 : Int32} {a6 : Int32} : Ou_leftWord (a0, a1, a2, a3, a4, a5, a6) = a3 := rfl
theorem Ou_leftPoint_mk {a0 : (Nat → Int32)} {a1 : (Nat → Int32)} {a2 : (Nat → Int32)} {a3 : (Nat → Int32)} {a4 : (Nat → Int32)} {a5 : Int32} {a6 : Int32} : Ou_leftPoint (a0, a1, a2, a3, a4, a5, a6) = a4 := rfl
theorem Ou_stores_mk {a0 : (Nat → Int32)} {a1 : (Nat → Int32)} {a2 : (Nat → Int32)} {a3 : (Nat → Int32)} {a4 : (Nat → Int32)} {a5 : Int32} {a6 : Int32} : Ou_stores (a0, a1, a2, a3, a4, a5, a6) = a5 := rfl
theorem Ou_outputs_mk {a0 : (Nat → Int32)} {a1 : (Nat → Int32)} {a2 : (Nat → Int32)} {a3 : (Nat → Int32)} {a4 : (Nat → Int32)} {a5 : Int32} {a6 : Int32} : Ou_outputs (a0, a1, a2, a3, a4, a5, a6) = a6 := rfl
abbrev T_Al : Type := T_St × (Nat → Int32) × (Nat → Int32) × Int32
def Al_strand (v : T_Al) : T_St := v.1
def Al_memory (v : T_Al) : (Nat → Int32) := v.2.1
def Al_output (v : T_Al) : (Nat → Int32) := v.2.2.1
def Al_outputs (v : T_Al) : Int32 := v.2.2.2
theorem Al_strand_mk {a0 : T_St} {a1 : (Nat → Int32)} {a2 : (Nat → Int32)} {a3 : Int32} : Al_strand (a0, a1, a2, a3) = a0 := rfl
theorem Al_memory_mk {a0 : T_St} {a1 : (Nat → Int32)} {a2 : (Nat → Int32)} {a3 : Int32} : Al_memory (a0, a1, a2, a3) = a1 := rfl
theorem Al_output_mk {a0 : T_St} {a1 : (Nat → Int32)} {a2 : (Nat → Int32)} {a3 : Int32} : Al_output (a0, a1, a2, a3) = a2 := rfl
theorem Al_outputs_mk {a0 : T_St} {a1 : (Nat → Int32)} {a2 : (Nat → Int32)} {a3 : Int32} : Al_outputs (a0, a1, a2, a3) = a3 := rfl
abbrev T_Pa : Type := (Nat → Int32) × T_St × T_St × T_St × T_Qu × T_Ou × T_Ta × Int32 × Int32
def Pa_rules (v : T_Pa) : (Nat → Int32) := v.1
def Pa_leader (v : T_Pa) : T_St := v.2.1
def Pa_trailer (v : T_Pa) : T_St := v.2.2.1
def Pa_point (v : T_Pa) : T_St := v.2.2.2.1
def Pa_queues (v : T_Pa) : T_Qu := v.2.2.2.2.1
def Pa_outside (v : T_Pa) : T_Ou := v.2.2.2.2.2.1
def Pa_tally (v : T_Pa) : T_Ta := v.2.2.2.2.2.2.1
def Pa_done (v : T_Pa) : Int32 := v.2.2.2.2.2.2.2.1
def Pa_down (v : T_Pa) : Int32 := v.2.2.2.2.2.2.2.2
theorem Pa_rules_mk {a0 : (Nat → Int32)} {a1 : T_St} {a2 : T_St} {a3 : T_St} {a4 : T_Qu} {a5 : T_Ou} {a6 : T_Ta} {a7 : Int32} {a8 : Int32} : Pa_rules (a0, a1, a2, a3, a4, a5, a6, a7, a8) = a0 := rfl
theorem Pa_leader_mk {a0 : (Nat → Int32)} {a1 : T_St} {a2 : T_St} {a3 : T_St} {a4 : T_Qu} {a5 : T_Ou} {a6 : T_Ta} {a7 : Int32} {a8 : Int32} : Pa_leader (a0, a1, a2, a3, a4, a5, a6, a7, a8) = a1 := rfl
theorem Pa_trailer_mk {a0 : (Nat → Int32)} {a1 : T_St} {a2 : T_St} {a3 : T_St} {a4 : T_Qu} {a5 : T_Ou} {a6 : T_Ta} {a7 : Int32} {a8 : Int32} : Pa_trailer (a0, a1, a2, a3, a4, a5, a6, a7, a8) = a2 := rfl
theorem Pa_point_mk {a0 : (Nat → Int32)} {a1 : T_St} {a2 : T_St} {a3 : T_St} {a4 : T_Qu} {a5 : T_Ou} {a6 : T_Ta} {a7 : Int32} {a8 : Int32} : Pa_point (a0, a1, a2, a3, a4, a5, a6, a7, a8) = a3 := rfl
theorem Pa_queues_mk {a0 : (Nat → Int32)} {a1 : T_St} {a2 : T_St} {a3 : T_St} {a4 : T_Qu} {a5 : T_Ou} {a6 : T_Ta} {a7 : Int32} {a8 : Int32} : Pa_queues (a0, a1, a2, a3, a4, a5, a6, a7, a8) = a4 := rfl
theorem Pa_outside_mk {a0 : (Nat → Int32)} {a1 : T_St} {a2 : T_St} {a3 : T_St} {a4 : T_Qu} {a5 : T_Ou} {a6 : T_Ta} {a7 : Int32} {a8 : Int32} : Pa_outside (a0, a1, a2, a3, a4, a5, a6, a7, a8) = a5 := rfl
theorem Pa_tally_mk {a0 : (Nat → Int32)} {a1 : T_St} {a2 : T_St} {a3 : T_St} {a4 : T_Qu} {a5 : T_Ou} {a6 : T_Ta} {a7 : Int32} {a8 : Int32} : Pa_tally (a0, a1, a2, a3, a4, a5, a6, a7, a8) = a6 := rfl
theorem Pa_done_mk {a0 : (Nat → Int32)} {a1 : T_St} {a2 : T_St} {a3 : T_St} {a4 : T_Qu} {a5 : T_Ou} {a6 : T_Ta} {a7 : Int32} {a8 : Int32} : Pa_done (a0, a1, a2, a3, a4, a5, a6, a7, a8) = a7 := rfl
theorem Pa_down_mk {a0 : (Nat → Int32)} {a1 : T_St} {a2 : T_St} {a3 : T_St} {a4 : T_Qu} {a5 : T_Ou} {a6 : T_Ta} {a7 : Int32} {a8 : Int32} : Pa_down (a0, a1, a2, a3, a4, a5, a6, a7, a8) = a8 := rfl
abbrev T_TT : Type := Int32
def TT_kept (v : T_TT) : Int32 := v
theorem TT_kept_mk {a0 : Int32} : TT_kept (a0) = a0 := rfl
abbrev T_M : Type := ((Nat → Int32) × Int32) × (Int32 × Int32 × Int32 × Int32 × Int32 × Int32 × Int32 × Int32 × (Nat → Int32) × (Nat → Int32)) × (Int32 × Int32) × ((Nat → Int32) × (Nat → Int32) × (Nat → Int32) × (Nat → Int32) × (Nat → Int32) × (Nat → Int32) × (Nat → Int32) × (Nat → Int32) × (Nat → Int32) × (Nat → Int32) × (Nat → Int32)) × ((Nat → Int32) × Int32 × (Nat → Int32) × Int32) × ((Nat → Int32) × (Nat → Int32) × Int32 × Int32) × ((Nat → Int32) × Int32) × (Int32 × Int32 × Int32 × (Nat → Int32) × (Nat → Int32) × (Nat → Int32) × (Nat → Int32)) × Int32
def M_tp (v : T_M) : ((Nat → Int32) × Int32) := v.1
def M_tape (v : ((Nat → Int32) × Int32)) : (Nat → Int32) := v.1
def M_taped (v : ((Nat → Int32) × Int32)) : Int32 := v.2
def M_rd (v : T_M) : (Int32 × Int32 × Int32 × Int32 × Int32 × Int32 × Int32 × Int32 × (Nat → Int32) × (Nat → Int32)) := v.2.1
def M_lines (v : (Int32 × Int32 × Int32 × Int32 × Int32 × Int32 × Int32 × Int32 × (Nat → Int32) × (Nat → Int32))) : Int32 := v.1
def M_size (v : (Int32 × Int32 × Int32 × Int32 × Int32 × Int32 × Int32 × Int32 × (Nat → Int32) × (Nat → Int32))) : Int32 := v.2.1
def M_at (v : (Int32 × Int32 × Int32 × Int32 × Int32 × Int32 × Int32 × Int32 × (Nat → Int32) × (Nat → Int32))) : Int32 := v.2.2.1
def M_place (v : (Int32 × Int32 × Int32 × Int32 × Int32 × Int32 × Int32 × Int32 × (Nat → Int32) × (Nat → Int32))) : Int32 := v.2.2.2.1
def M_sort (v : (Int32 × Int32 × Int32 × Int32 × Int32 × Int32 × Int32 × Int32 × (Nat → Int32) × (Nat → Int32))) : Int32 := v.2.2.2.2.1
def M_value (v : (Int32 × Int32 × Int32 × Int32 × Int32 × Int32 × Int32 × Int32 × (Nat → Int32) × (Nat → Int32))) : Int32 := v.2.2.2.2.2.1
def M_fault (v : (Int32 × Int32 × Int32 × Int32 × Int32 × Int32 × Int32 × Int32 × (Nat → Int32) × (Nat → Int32))) : Int32 := v.2.2.2.2.2.2.1
def M_faultPlace (v : (Int32 × Int32 × Int32 × Int32 × Int32 × Int32 × Int32 × Int32 × (Nat → Int32) × (Nat → Int32))) : Int32 := v.2.2.2.2.2.2.2.1
def M_isTold (v : (Int32 × Int32 × Int32 × Int32 × Int32 × Int32 × Int32 × Int32 × (Nat → Int32) × (Nat → Int32))) : (Nat → Int32) := v.2.2.2.2.2.2.2.2.1
def M_hasData (v : (Int32 × Int32 × Int32 × Int32 × Int32 × Int32 × Int32 × Int32 × (Nat → Int32) × (Nat → Int32))) : (Nat → Int32) := v.2.2.2.2.2.2.2.2.2
def M_lf (v : T_M) : (Int32 × Int32) := v.2.2.1
def M_lastFault (v : (Int32 × Int32)) : Int32 := v.1
def M_lastPlace (v : (Int32 × Int32)) : Int32 := v.2
def M_cd (v : T_M) : ((Nat → Int32) × (Nat → Int32) × (Nat → Int32) × (Nat → Int32) × (Nat → Int32) × (Nat → Int32) × (Nat → Int32) × (Nat → Int32) × (Nat → Int32) × (Nat → Int32) × (Nat → Int32)) := v.2.2.2.1
def M_number (v : ((Nat → Int32) × (Nat → Int32) × (Nat → Int32) × (Nat → Int32) × (Nat → Int32) × (Nat → Int32) × (Nat → Int32) × (Nat → Int32) × (Nat → Int32) × (Nat → Int32) × (Nat → Int32))) : (Nat → Int32) := v.1
def M_codeSort (v : ((Nat → Int32) × (Nat → Int32) × (Nat → Int32) × (Nat → Int32) × (Nat → Int32) × (Nat → Int32) × (Nat → Int32) × (Nat → Int32) × (Nat → Int32) × (Nat → Int32) × (Nat → Int32))) : (Nat → Int32) := v.2.1
def M_codeA (v : ((Nat → Int32) × (Nat → Int32) × (Nat → Int32) × (Nat → Int32) × (Nat → Int32) × (Nat → Int32) × (Nat → Int32) × (Nat → Int32) × (Nat → Int32) × (Nat → Int32) × (Nat → Int32))) : (Nat → Int32) := v.2.2.1
def M_codeB (v : ((Nat → Int32) × (Nat → Int32) × (Nat → Int32) × (Nat → Int32) × (Nat → Int32) × (Nat → Int32) × (Nat → Int32) × (Nat → Int32) × (Nat → Int32) × (Nat → Int32) × (Nat → Int32))) : (Nat → Int32) := v.2.2.2.1
def M_codeC (v : ((Nat → Int32) × (Nat → Int32) × (Nat → Int32) × (Nat → Int32) × (Nat → Int32) × (Nat → Int32) × (Nat → Int32) × (Nat → Int32) × (Nat → Int32) × (Nat → Int32) × (Nat → Int32))) : (Nat → Int32) := v.2.2.2.2.1
def M_codeName (v : ((Nat → Int32) × (Nat → Int32) × (Nat → Int32) × (Nat → Int32) × (Nat → Int32) × (Nat → Int32) × (Nat → Int32) × (Nat → Int32) × (Nat → Int32) × (Nat → Int32) × (Nat → Int32))) : (Nat → Int32) := v.2.2.2.2.2.1
def M_codePlace (v : ((Nat → Int32) × (Nat → Int32) × (Nat → Int32) × (Nat → Int32) × (Nat → Int32) × (Nat → Int32) × (Nat → Int32) × (Nat → Int32) × (Nat → Int32) × (Nat → Int32) × (Nat → Int32))) : (Nat → Int32) := v.2.2.2.2.2.2.1
def M_codeTo (v : ((Nat → Int32) × (Nat → Int32) × (Nat → Int32) × (Nat → Int32) × (Nat → Int32) × (Nat → Int32) × (Nat → Int32) × (Nat → Int32) × (Nat → Int32) × (Nat → Int32) × (Nat → Int32))) : (Nat → Int32) := v.2.2.2.2.2.2.2.1
def M_labelName (v : ((Nat → Int32) × (Nat → Int32) × (Nat → Int32) × (Nat → Int32) × (Nat → Int32) × (Nat → Int32) × (Nat → Int32) × (Nat → Int32) × (Nat → Int32) × (Nat → Int32) × (Nat → Int32))) : (Nat → Int32) := v.2.2.2.2.2.2.2.2.1
def M_labelAt (v : ((Nat → Int32) × (Nat → Int32) × (Nat → Int32) × (Nat → Int32) × (Nat → Int32) × (Nat → Int32) × (Nat → Int32) × (Nat → Int32) × (Nat → Int32) × (Nat → Int32) × (Nat → Int32))) : (Nat → Int32) := v.2.2.2.2.2.2.2.2.2.1
def M_data (v : ((Nat → Int32) × (Nat → Int32) × (Nat → Int32) × (Nat → Int32) × (Nat → Int32) × (Nat → Int32) × (Nat → Int32) × (Nat → Int32) × (Nat → Int32) × (Nat → Int32) × (Nat → Int32))) : (Nat → Int32) := v.2.2.2.2.2.2.2.2.2.2
def M_rn (v : T_M) : ((Nat → Int32) × Int32 × (Nat → Int32) × Int32) := v.2.2.2.2.1
def M_s (v : ((Nat → Int32) × Int32 × (Nat → Int32) × Int32)) : (Nat → Int32) := v.1
def M_spanNow (v : ((Nat → Int32) × Int32 × (Nat → Int32) × Int32)) : Int32 := v.2.1
def M_sizeNow (v : ((Nat → Int32) × Int32 × (Nat → Int32) × Int32)) : (Nat → Int32) := v.2.2.1
def M_placeThen (v : ((Nat → Int32) × Int32 × (Nat → Int32) × Int32)) : Int32 := v.2.2.2
def M_ex (v : T_M) : ((Nat → Int32) × (Nat → Int32) × Int32 × Int32) := v.2.2.2.2.2.1
def M_aside (v : ((Nat → Int32) × (Nat → Int32) × Int32 × Int32)) : (Nat → Int32) := v.1
def M_further (v : ((Nat → Int32) × (Nat → Int32) × Int32 × Int32)) : (Nat → Int32) := v.2.1
def M_shotAlarm (v : ((Nat → Int32) × (Nat → Int32) × Int32 × Int32)) : Int32 := v.2.2.1
def M_drawn (v : ((Nat → Int32) × (Nat → Int32) × Int32 × Int32)) : Int32 := v.2.2.2
def M_im (v : T_M) : ((Nat → Int32) × Int32) := v.2.2.2.2.2.2.1
def M_image (v : ((Nat → Int32) × Int32)) : (Nat → Int32) := v.1
def M_hasImage (v : ((Nat → Int32) × Int32)) : Int32 := v.2
def M_al (v : T_M) : (Int32 × Int32 × Int32 × (Nat → Int32) × (Nat → Int32) × (Nat → Int32) × (Nat → Int32)) := v.2.2.2.2.2.2.2.1
def M_alonePlace (v : (Int32 × Int32 × Int32 × (Nat → Int32) × (Nat → Int32) × (Nat → Int32) × (Nat → Int32))) : Int32 := v.1
def M_aloneSteps (v : (Int32 × Int32 × Int32 × (Nat → Int32) × (Nat → Int32) × (Nat → Int32) × (Nat → Int32))) : Int32 := v.2.1
def M_aloneOut (v : (Int32 × Int32 × Int32 × (Nat → Int32) × (Nat → Int32) × (Nat → Int32) × (Nat → Int32))) : Int32 := v.2.2.1
def M_aloneRegister (v : (Int32 × Int32 × Int32 × (Nat → Int32) × (Nat → Int32) × (Nat → Int32) × (Nat → Int32))) : (Nat → Int32) := v.2.2.2.1
def M_aloneReal (v : (Int32 × Int32 × Int32 × (Nat → Int32) × (Nat → Int32) × (Nat → Int32) × (Nat → Int32))) : (Nat → Int32) := v.2.2.2.2.1
def M_aloneMemory (v : (Int32 × Int32 × Int32 × (Nat → Int32) × (Nat → Int32) × (Nat → Int32) × (Nat → Int32))) : (Nat → Int32) := v.2.2.2.2.2.1
def M_aloneOutput (v : (Int32 × Int32 × Int32 × (Nat → Int32) × (Nat → Int32) × (Nat → Int32) × (Nat → Int32))) : (Nat → Int32) := v.2.2.2.2.2.2
def M_thrown (v : T_M) : Int32 := v.2.2.2.2.2.2.2.2
theorem M_tp_mk {a0 : ((Nat → Int32) × Int32)} {a1 : (Int32 × Int32 × Int32 × Int32 × Int32 × Int32 × Int32 × Int32 × (Nat → Int32) × (Nat → Int32))} {a2 : (Int32 × Int32)} {a3 : ((Nat → Int32) × (Nat → Int32) × (Nat → Int32) × (Nat → Int32) × (Nat → Int32) × (Nat → Int32) × (Nat → Int32) × (Nat → Int32) × (Nat → Int32) × (Nat → Int32) × (Nat → Int32))} {a4 : ((Nat → Int32) × Int32 × (Nat → Int32) × Int32)} {a5 : ((Nat → Int32) × (Nat → Int32) × Int32 × Int32)} {a6 : ((Nat → Int32) × Int32)} {a7 : (Int32 × Int32 × Int32 × (Nat → Int32) × (Nat → Int32) × (Nat → Int32) × (Nat → Int32))} {a8 : Int32} : M_tp (a0, a1, a2, a3, a4, a5, a6, a7, a8) = a0 := rfl
theorem M_rd_mk {a0 : ((Nat → Int32) × Int32)} {a1 : (Int32 × Int32 × Int32 × Int32 × Int32 × Int32 × Int32 × Int32 × (Nat → Int32) × (Nat → Int32))} {a2 : (Int32 × Int32)} {a3 : ((Nat → Int32) × (Nat → Int32) × (Nat → Int32) × (Nat → Int32) × (Nat → Int32) × (Nat → Int32) × (Nat → Int32) × (Nat → Int32) × (Nat → Int32) × (Nat → Int32) × (Nat → Int32))} {a4 : ((Nat → Int32) × Int32 × (Nat → Int32) × Int32)} {a5 : ((Nat → Int32) × (Nat → Int32) × Int32 × Int32)} {a6 : ((Nat → Int32) × Int32)} {a7 : (Int32 × Int32 × Int32 × (Nat → Int32) × (Nat → Int32) × (Nat → Int32) × (Nat → Int32))} {a8 : Int32} : M_rd (a0, a1, a2, a3, a4, a5, a6, a7, a8) = a1 := rfl
theorem M_lf_mk {a0 : ((Nat → Int32) × Int32)} {a1 : (Int32 × Int32 × Int32 × Int32 × Int32 × Int32 × Int32 × Int32 × (Nat → Int32) × (Nat → Int32))} {a2 : (Int32 × Int32)} {a3 : ((Nat → Int32) × (Nat → Int32) × (Nat → Int32) × (Nat → Int32) × (Nat → Int32) × (Nat → Int32) × (Nat → Int32) × (Nat → Int32) × (Nat → Int32) × (Nat → Int32) × (Nat → Int32))} {a4 : ((Nat → Int32) × Int32 × (Nat → Int32) × Int32)} {a5 : ((Nat → Int32) × (Nat → Int32) × Int32 × Int32)} {a6 : ((Nat → Int32) × Int32)} {a7 : (Int32 × Int32 × Int32 × (Nat → Int32) × (Nat → Int32) × (Nat → Int32) × (Nat → Int32))} {a8 : Int32} : M_lf (a0, a1, a2, a3, a4, a5, a6, a7, a8) = a2 := rfl
theorem M_cd_mk {a0 : ((Nat → Int32) × Int32)} {a1 : (Int32 × Int32 × Int32 × Int32 × Int32 × Int32 × Int32 × Int32 × (Nat → Int32) × (Nat → Int32))} {a2 : (Int32 × Int32)} {a3 : ((Nat → Int32) × (Nat → Int32) × (Nat → Int32) × (Nat → Int32) × (Nat → Int32) × (Nat → Int32) × (Nat → Int32) × (Nat → Int32) × (Nat → Int32) × (Nat → Int32) × (Nat → Int32))} {a4 : ((Nat → Int32) × Int32 × (Nat → Int32) × Int32)} {a5 : ((Nat → Int32) × (Nat → Int32) × Int32 × Int32)} {a6 : ((Nat → Int32) × Int32)} {a7 : (Int32 × Int32 × Int32 × (Nat → Int32) × (Nat → Int32) × (Nat → Int32) × (Nat → Int32))} {a8 : Int32} : M_cd (a0, a1, a2, a3, a4, a5, a6, a7, a8) = a3 := rfl
theorem M_rn_mk {a0 : ((Nat → Int32) × Int32)} {a1 : (Int32 × Int32 × Int32 × Int32 × Int32 × Int32 × Int32 × Int32 × (Nat → Int32) × (Nat → Int32))} {a2 : (Int32 × Int32)} {a3 : ((Nat → Int32) × (Nat → Int32) × (Nat → Int32) × (Nat → Int32) × (Nat → Int32) × (Nat → Int32) × (Nat → Int32) × (Nat → Int32) × (Nat → Int32) × (Nat → Int32) × (Nat → Int32))} {a4 : ((Nat → Int32) × Int32 × (Nat → Int32) × Int32)} {a5 : ((Nat → Int32) × (Nat → Int32) × Int32 × Int32)} {a6 : ((Nat → Int32) × Int32)} {a7 : (Int32 × Int32 × Int32 × (Nat → Int32) × (Nat → Int32) × (Nat → Int32) × (Nat → Int32))} {a8 : Int32} : M_rn (a0, a1, a2, a3, a4, a5, a6, a7, a8) = a4 := rfl
theorem M_ex_mk {a0 : ((Nat → Int32) × Int32)} {a1 : (Int32 × Int32 × Int32 × Int32 × Int32 × Int32 × Int32 × Int32 × (Nat → Int32) × (Nat → Int32))} {a2 : (Int32 × Int32)} {a3 : ((Nat → Int32) × (Nat → Int32) × (Nat → Int32) × (Nat → Int32) × (Nat → Int32) × (Nat → Int32) × (Nat → Int32) × (Nat → Int32) × (Nat → Int32) × (Nat → Int32) × (Nat → Int32))} {a4 : ((Nat → Int32) × Int32 × (Nat → Int32) × Int32)} {a5 : ((Nat → Int32) × (Nat → Int32) × Int32 × Int32)} {a6 : ((Nat → Int32) × Int32)} {a7 : (Int32 × Int32 × Int32 × (Nat → Int32) × (Nat → Int32) × (Nat → Int32) × (Nat → Int32))} {a8 : Int32} : M_ex (a0, a1, a2, a3, a4, a5, a6, a7, a8) = a5 := rfl
theorem M_im_mk {a0 : ((Nat → Int32) × Int32)} {a1 : (Int32 × Int32 × Int32 × Int32 × Int32 × Int32 × Int32 × Int32 × (Nat → Int32) × (Nat → Int32))} {a2 : (Int32 × Int32)} {a3 : ((Nat → Int32) × (Nat → Int32) × (Nat → Int32) × (Nat → Int32) × (Nat → Int32) × (Nat → Int32) × (Nat → Int32) × (Nat → Int32) × (Nat → Int32) × (Nat → Int32) × (Nat → Int32))} {a4 : ((Nat → Int32) × Int32 × (Nat → Int32) × Int32)} {a5 : ((Nat → Int32) × (Nat → Int32) × Int32 × Int32)} {a6 : ((Nat → Int32) × Int32)} {a7 : (Int32 × Int32 × Int32 × (Nat → Int32) × (Nat → Int32) × (Nat → Int32) × (Nat → Int32))} {a8 : Int32} : M_im (a0, a1, a2, a3, a4, a5, a6, a7, a8) = a6 := rfl
theorem M_al_mk {a0 : ((Nat → Int32) × Int32)} {a1 : (Int32 × Int32 × Int32 × Int32 × Int32 × Int32 × Int32 × Int32 × (Nat → Int32) × (Nat → Int32))} {a2 : (Int32 × Int32)} {a3 : ((Nat → Int32) × (Nat → Int32) × (Nat → Int32) × (Nat → Int32) × (Nat → Int32) × (Nat → Int32) × (Nat → Int32) × (Nat → Int32) × (Nat → Int32) × (Nat → Int32) × (Nat → Int32))} {a4 : ((Nat → Int32) × Int32 × (Nat → Int32) × Int32)} {a5 : ((Nat → Int32) × (Nat → Int32) × Int32 × Int32)} {a6 : ((Nat → Int32) × Int32)} {a7 : (Int32 × Int32 × Int32 × (Nat → Int32) × (Nat → Int32) × (Nat → Int32) × (Nat → Int32))} {a8 : Int32} : M_al (a0, a1, a2, a3, a4, a5, a6, a7, a8) = a7 := rfl
theorem M_thrown_mk {a0 : ((Nat → Int32) × Int32)} {a1 : (Int32 × Int32 × Int32 × Int32 × Int32 × Int32 × Int32 × Int32 × (Nat → Int32) × (Nat → Int32))} {a2 : (Int32 × Int32)} {a3 : ((Nat → Int32) × (Nat → Int32) × (Nat → Int32) × (Nat → Int32) × (Nat → Int32) × (Nat → Int32) × (Nat → Int32) × (Nat → Int32) × (Nat → Int32) × (Nat → Int32) × (Nat → Int32))} {a4 : ((Nat → Int32) × Int32 × (Nat → Int32) × Int32)} {a5 : ((Nat → Int32) × (Nat → Int32) × Int32 × Int32)} {a6 : ((Nat → Int32) × Int32)} {a7 : (Int32 × Int32 × Int32 × (Nat → Int32) × (Nat → Int32) × (Nat → Int32) × (Nat → Int32))} {a8 : Int32} : M_thrown (a0, a1, a2, a3, a4, a5, a6, a7, a8) = a8 := rfl
theorem M_tape_mk {a0 : (Nat → Int32)} {a1 : Int32} : M_tape (a0, a1) = a0 := rfl
theorem M_taped_mk {a0 : (Nat → Int32)} {a1 : Int32} : M_taped (a0, a1) = a1 := rfl
theorem M_lines_mk {a0 : Int32} {a1 : Int32} {a2 : Int32} {a3 : Int32} {a4 : Int32} {a5 : Int32} {a6 : Int32} {a7 : Int32} {a8 : (Nat → Int32)} {a9 : (Nat → Int32)} : M_lines (a0, a1, a2, a3, a4, a5, a6, a7, a8, a9) = a0 := rfl
theorem M_size_mk {a0 : Int32} {a1 : Int32} {a2 : Int32} {a3 : Int32} {a4 : Int32} {a5 : Int32} {a6 : Int32} {a7 : Int32} {a8 : (Nat → Int32)} {a9 : (Nat → Int32)} : M_size (a0, a1, a2, a3, a4, a5, a6, a7, a8, a9) = a1 := rfl
theorem M_at_mk {a0 : Int32} {a1 : Int32} {a2 : Int32} {a3 : Int32} {a4 : Int32} {a5 : Int32} {a6 : Int32} {a7 : Int32} {a8 : (Nat → Int32)} {a9 : (Nat → Int32)} : M_at (a0, a1, a2, a3, a4, a5, a6, a7, a8, a9) = a2 := rfl
theorem M_place_mk {a0 : Int32} {a1 : Int32} {a2 : Int32} {a3 : Int32} {a4 : Int32} {a5 : Int32} {a6 : Int32} {a7 : Int32} {a8 : (Nat → Int32)} {a9 : (Nat → Int32)} : M_place (a0, a1, a2, a3, a4, a5, a6, a7, a8, a9) = a3 := rfl
theorem M_sort_mk {a0 : Int32} {a1 : Int32} {a2 : Int32} {a3 : Int32} {a4 : Int32} {a5 : Int32} {a6 : Int32} {a7 : Int32} {a8 : (Nat → Int32)} {a9 : (Nat → Int32)} : M_sort (a0, a1, a2, a3, a4, a5, a6, a7, a8, a9) = a4 := rfl
theorem M_value_mk {a0 : Int32} {a1 : Int32} {a2 : Int32} {a3 : Int32} {a4 : Int32} {a5 : Int32} {a6 : Int32} {a7 : Int32} {a8 : (Nat → Int32)} {a9 : (Nat → Int32)} : M_value (a0, a1, a2, a3, a4, a5, a6, a7, a8, a9) = a5 := rfl
theorem M_fault_mk {a0 : Int32} {a1 : Int32} {a2 : Int32} {a3 : Int32} {a4 : Int32} {a5 : Int32} {a6 : Int32} {a7 : Int32} {a8 : (Nat → Int32)} {a9 : (Nat → Int32)} : M_fault (a0, a1, a2, a3, a4, a5, a6, a7, a8, a9) = a6 := rfl
theorem M_faultPlace_mk {a0 : Int32} {a1 : Int32} {a2 : Int32} {a3 : Int32} {a4 : Int32} {a5 : Int32} {a6 : Int32} {a7 : Int32} {a8 : (Nat → Int32)} {a9 : (Nat → Int32)} : M_faultPlace (a0, a1, a2, a3, a4, a5, a6, a7, a8, a9) = a7 := rfl
theorem M_isTold_mk {a0 : Int32} {a1 : Int32} {a2 : Int32} {a3 : Int32} {a4 : Int32} {a5 : Int32} {a6 : Int32} {a7 : Int32} {a8 : (Nat → Int32)} {a9 : (Nat → Int32)} : M_isTold (a0, a1, a2, a3, a4, a5, a6, a7, a8, a9) = a8 := rfl
theorem M_hasData_mk {a0 : Int32} {a1 : Int32} {a2 : Int32} {a3 : Int32} {a4 : Int32} {a5 : Int32} {a6 : Int32} {a7 : Int32} {a8 : (Nat → Int32)} {a9 : (Nat → Int32)} : M_hasData (a0, a1, a2, a3, a4, a5, a6, a7, a8, a9) = a9 := rfl
theorem M_lastFault_mk {a0 : Int32} {a1 : Int32} : M_lastFault (a0, a1) = a0 := rfl
theorem M_lastPlace_mk {a0 : Int32} {a1 : Int32} : M_lastPlace (a0, a1) = a1 := rfl
theorem M_number_mk {a0 : (Nat → Int32)} {a1 : (Nat → Int32)} {a2 : (Nat → Int32)} {a3 : (Nat → Int32)} {a4 : (Nat → Int32)} {a5 : (Nat → Int32)} {a6 : (Nat → Int32)} {a7 : (Nat → Int32)} {a8 : (Nat → Int32)} {a9 : (Nat → Int32)} {a10 : (Nat → Int32)} : M_number (a0, a1, a2, a3, a4, a5, a6, a7, a8, a9, a10) = a0 := rfl
theorem M_codeSort_mk {a0 : (Nat → Int32)} {a1 : (Nat → Int32)} {a2 : (Nat → Int32)} {a3 : (Nat → Int32)} {a4 : (Nat → Int32)} {a5 : (Nat → Int32)} {a6 : (Nat → Int32)} {a7 : (Nat → Int32)} {a8 : (Nat → Int32)} {a9 : (Nat → Int32)} {a10 : (Nat → Int32)} : M_codeSort (a0, a1, a2, a3, a4, a5, a6, a7, a8, a9, a10) = a1 := rfl
theorem M_codeA_mk {a0 : (Nat → Int32)} {a1 : (Nat → Int32)} {a2 : (Nat → Int32)} {a3 : (Nat → Int32)} {a4 : (Nat → Int32)} {a5 : (Nat → Int32)} {a6 : (Nat → Int32)} {a7 : (Nat → Int32)} {a8 : (Nat → Int32)} {a9 : (Nat → Int32)} {a10 : (Nat → Int32)} : M_codeA (a0, a1, a2, a3, a4, a5, a6, a7, a8, a9, a10) = a2 := rfl
theorem M_codeB_mk {a0 : (Nat → Int32)} {a1 : (Nat → Int32)} {a2 : (Nat → Int32)} {a3 : (Nat → Int32)} {a4 : (Nat → Int32)} {a5 : (Nat → Int32)} {a6 : (Nat → Int32)} {a7 : (Nat → Int32)} {a8 : (Nat → Int32)} {a9 : (Nat → Int32)} {a10 : (Nat → Int32)} : M_codeB (a0, a1, a2, a3, a4, a5, a6, a7, a8, a9, a10) = a3 := rfl
theorem M_codeC_mk {a0 : (Nat → Int32)} {a1 : (Nat → Int32)} {a2 : (Nat → Int32)} {a3 : (Nat → Int32)} {a4 : (Nat → Int32)} {a5 : (Nat → Int32)} {a6 : (Nat → Int32)} {a7 : (Nat → Int32)} {a8 : (Nat → Int32)} {a9 : (Nat → Int32)} {a10 : (Nat → Int32)} : M_codeC (a0, a1, a2, a3, a4, a5, a6, a7, a8, a9, a10) = a4 := rfl
theorem M_codeName_mk {a0 : (Nat → Int32)} {a1 : (Nat → Int32)} {a2 : (Nat → Int32)} {a3 : (Nat → Int32)} {a4 : (Nat → Int32)} {a5 : (Nat → Int32)} {a6 : (Nat → Int32)} {a7 : (Nat → Int32)} {a8 : (Nat → Int32)} {a9 : (Nat → Int32)} {a10 : (Nat → Int32)} : M_codeName (a0, a1, a2, a3, a4, a5, a6, a7, a8, a9, a10) = a5 := rfl
theorem M_codePlace_mk {a0 : (Nat → Int32)} {a1 : (Nat → Int32)} {a2 : (Nat → Int32)} {a3 : (Nat → Int32)} {a4 : (Nat → Int32)} {a5 : (Nat → Int32)} {a6 : (Nat → Int32)} {a7 : (Nat → Int32)} {a8 : (Nat → Int32)} {a9 : (Nat → Int32)} {a10 : (Nat → Int32)} : M_codePlace (a0, a1, a2, a3, a4, a5, a6, a7, a8, a9, a10) = a6 := rfl
theorem M_codeTo_mk {a0 : (Nat → Int32)} {a1 : (Nat → Int32)} {a2 : (Nat → Int32)} {a3 : (Nat → Int32)} {a4 : (Nat → Int32)} {a5 : (Nat → Int32)} {a6 : (Nat → Int32)} {a7 : (Nat → Int32)} {a8 : (Nat → Int32)} {a9 : (Nat → Int32)} {a10 : (Nat → Int32)} : M_codeTo (a0, a1, a2, a3, a4, a5, a6, a7, a8, a9, a10) = a7 := rfl
theorem M_labelName_mk {a0 : (Nat → Int32)} {a1 : (Nat → Int32)} {a2 : (Nat → Int32)} {a3 : (Nat → Int32)} {a4 : (Nat → Int32)} {a5 : (Nat → Int32)} {a6 : (Nat → Int32)} {a7 : (Nat → Int32)} {a8 : (Nat → Int32)} {a9 : (Nat → Int32)} {a10 : (Nat → Int32)} : M_labelName (a0, a1, a2, a3, a4, a5, a6, a7, a8, a9, a10) = a8 := rfl
theorem M_labelAt_mk {a0 : (Nat → Int32)} {a1 : (Nat → Int32)} {a2 : (Nat → Int32)} {a3 : (Nat → Int32)} {a4 : (Nat → Int32)} {a5 : (Nat → Int32)} {a6 : (Nat → Int32)} {a7 : (Nat → Int32)} {a8 : (Nat → Int32)} {a9 : (Nat → Int32)} {a10 : (Nat → Int32)} : M_labelAt (a0, a1, a2, a3, a4, a5, a6, a7, a8, a9, a10) = a9 := rfl
theorem M_data_mk {a0 : (Nat → Int32)} {a1 : (Nat → Int32)} {a2 : (Nat → Int32)} {a3 : (Nat → Int32)} {a4 : (Nat → Int32)} {a5 : (Nat → Int32)} {a6 : (Nat → Int32)} {a7 : (Nat → Int32)} {a8 : (Nat → Int32)} {a9 : (Nat → Int32)} {a10 : (Nat → Int32)} : M_data (a0, a1, a2, a3, a4, a5, a6, a7, a8, a9, a10) = a10 := rfl
theorem M_s_mk {a0 : (Nat → Int32)} {a1 : Int32} {a2 : (Nat → Int32)} {a3 : Int32} : M_s (a0, a1, a2, a3) = a0 := rfl
theorem M_spanNow_mk {a0 : (Nat → Int32)} {a1 : Int32} {a2 : (Nat → Int32)} {a3 : Int32} : M_spanNow (a0, a1, a2, a3) = a1 := rfl
theorem M_sizeNow_mk {a0 : (Nat → Int32)} {a1 : Int32} {a2 : (Nat → Int32)} {a3 : Int32} : M_sizeNow (a0, a1, a2, a3) = a2 := rfl
theorem M_placeThen_mk {a0 : (Nat → Int32)} {a1 : Int32} {a2 : (Nat → Int32)} {a3 : Int32} : M_placeThen (a0, a1, a2, a3) = a3 := rfl
theorem M_aside_mk {a0 : (Nat → Int32)} {a1 : (Nat → Int32)} {a2 : Int32} {a3 : Int32} : M_aside (a0, a1, a2, a3) = a0 := rfl
theorem M_further_mk {a0 : (Nat → Int32)} {a1 : (Nat → Int32)} {a2 : Int32} {a3 : Int32} : M_further (a0, a1, a2, a3) = a1 := rfl
theorem M_shotAlarm_mk {a0 : (Nat → Int32)} {a1 : (Nat → Int32)} {a2 : Int32} {a3 : Int32} : M_shotAlarm (a0, a1, a2, a3) = a2 := rfl
theorem M_drawn_mk {a0 : (Nat → Int32)} {a1 : (Nat → Int32)} {a2 : Int32} {a3 : Int32} : M_drawn (a0, a1, a2, a3) = a3 := rfl
theorem M_image_mk {a0 : (Nat → Int32)} {a1 : Int32} : M_image (a0, a1) = a0 := rfl
theorem M_hasImage_mk {a0 : (Nat → Int32)} {a1 : Int32} : M_hasImage (a0, a1) = a1 := rfl
theorem M_alonePlace_mk {a0 : Int32} {a1 : Int32} {a2 : Int32} {a3 : (Nat → Int32)} {a4 : (Nat → Int32)} {a5 : (Nat → Int32)} {a6 : (Nat → Int32)} : M_alonePlace (a0, a1, a2, a3, a4, a5, a6) = a0 := rfl
theorem M_aloneSteps_mk {a0 : Int32} {a1 : Int32} {a2 : Int32} {a3 : (Nat → Int32)} {a4 : (Nat → Int32)} {a5 : (Nat → Int32)} {a6 : (Nat → Int32)} : M_aloneSteps (a0, a1, a2, a3, a4, a5, a6) = a1 := rfl
theorem M_aloneOut_mk {a0 : Int32} {a1 : Int32} {a2 : Int32} {a3 : (Nat → Int32)} {a4 : (Nat → Int32)} {a5 : (Nat → Int32)} {a6 : (Nat → Int32)} : M_aloneOut (a0, a1, a2, a3, a4, a5, a6) = a2 := rfl
theorem M_aloneRegister_mk {a0 : Int32} {a1 : Int32} {a2 : Int32} {a3 : (Nat → Int32)} {a4 : (Nat → Int32)} {a5 : (Nat → Int32)} {a6 : (Nat → Int32)} : M_aloneRegister (a0, a1, a2, a3, a4, a5, a6) = a3 := rfl
theorem M_aloneReal_mk {a0 : Int32} {a1 : Int32} {a2 : Int32} {a3 : (Nat → Int32)} {a4 : (Nat → Int32)} {a5 : (Nat → Int32)} {a6 : (Nat → Int32)} : M_aloneReal (a0, a1, a2, a3, a4, a5, a6) = a4 := rfl
theorem M_aloneMemory_mk {a0 : Int32} {a1 : Int32} {a2 : Int32} {a3 : (Nat → Int32)} {a4 : (Nat → Int32)} {a5 : (Nat → Int32)} {a6 : (Nat → Int32)} : M_aloneMemory (a0, a1, a2, a3, a4, a5, a6) = a5 := rfl
theorem M_aloneOutput_mk {a0 : Int32} {a1 : Int32} {a2 : Int32} {a3 : (Nat → Int32)} {a4 : (Nat → Int32)} {a5 : (Nat → Int32)} {a6 : (Nat → Int32)} : M_aloneOutput (a0, a1, a2, a3, a4, a5, a6) = a6 := rfl
def sch (i : Nat) (k : Int32) : Int32 := (((bytS.getD i []).getD k.toNatClampNeg 0 &&& 255).toUInt32 % 65536).toInt32
def slen (i : Nat) : Int32 := Int32.ofNat (lenS.getD i 0)
