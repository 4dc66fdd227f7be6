/-! where nothing is wrong, no place of a fault is told -/
def RO {α : Type} (P : α → Prop) (o : Option α) : Prop := ∀ x, o = some x → P x
theorem RO_none {α : Type} {P : α → Prop} : RO P (none : Option α) := fun x h => by cases h
theorem RO_some {α : Type} {P : α → Prop} {x : α} (h : P x) : RO P (some x) := fun y e => by cases e; exact h
theorem RO_nm {α β : Type} {P : β → Prop} {x : α} {k : α → Option β} (h : RO P (k x)) : RO P (nm x k) := h
theorem RO_if {c : Prop} [i : Decidable c] {α : Type} {P : α → Prop} {a b : Option α} (h : c → RO P a) (g : ¬ c → RO P b) : RO P (if c then a else b) := by
  by_cases q : c
  · rw [if_pos q]; exact h q
  · rw [if_neg q]; exact g q
theorem RO_bd {α β : Type} {Q : α → Prop} {P : β → Prop} {a : Option α} {k : α → Option β} (h : RO Q a) (g : ∀ x, Q x → RO P (k x)) : RO P (bd a k) := by
  cases a with
  | none => exact RO_none
  | some x => exact g x (h x rfl)
theorem RO_bda {α β : Type} {P : β → Prop} {a : Option α} {k : α → Option β} (g : ∀ x, RO P (k x)) : RO P (bd a k) := RO_bd (Q := fun _ => True) (fun _ _ => trivial) (fun x _ => g x)
theorem RO_bd2 {α β γ : Type} {Q : α × β → Prop} {P : γ → Prop} {a : Option (α × β)} {k : α → β → Option γ} (h : RO Q a) (g : ∀ x y, Q (x, y) → RO P (k x y)) : RO P (bd2 a k) := by
  cases a with
  | none => exact RO_none
  | some x => exact g x.1 x.2 (h x rfl)
def FPK (v w : T_Rd) : Prop := Rd_fault w = (0 : Int32) → Rd_fault v = (0 : Int32) ∧ Rd_faultPlace w = Rd_faultPlace v
theorem FPK_refl (v : T_Rd) : FPK v v := fun h => ⟨h, rfl⟩
theorem FPK_trans {a b c : T_Rd} (h : FPK a b) (g : FPK b c) : FPK a c := fun e => ⟨(h (g e).1).1, (g e).2.trans (h (g e).1).2⟩
theorem fail_fp (v : T_Rd) {f p : Int32} (hf : f ≠ 0) : RO (FPK v) (f_Rd_fail v f p) := RO_some (fun h => absurd h hf)
theorem advL0_fp {v : T_Rd} {P : T_Rd → Prop} {k : Int32 → Option T_Rd} (h : ∀ x, RO P (k x)) : ∀ n i, RO P (f_Rd_advance_L0 v k n i) := by
  intro n
  induction n with
  | zero => exact fun _ => RO_none
  | succ n ih =>
    intro i
    rw [f_Rd_advance_L0]
    repeat first  | exact h _ | exact ih _ | exact RO_none | (with_reducible refine RO_nm ?_; try dsimp only) | ((with_reducible refine RO_if ?_ ?_) <;> intro _) | ((with_reducible refine RO_bd (fail_fp _ (by decide)) ?_); intro x_ hx_) | ((with_reducible refine RO_bda ?_); intro x_)
theorem wordL_fp {v : T_Rd} {P : T_Rd → Prop} {k : Int32 → Int32 → Option T_Rd} (h : ∀ x y, RO P (k x y)) : ∀ n i j l, RO P (f_Rd_readWord_L12 v k n i j l) := by
  intro n
  induction n with
  | zero => exact fun _ _ _ => RO_none
  | succ n ih =>
    intro i j l
    rw [f_Rd_readWord_L12]
    repeat first  | exact h _ _ | exact ih _ _ _ | exact RO_none | (with_reducible refine RO_nm ?_; try dsimp only) | ((with_reducible refine RO_if ?_ ?_) <;> intro _) | ((with_reducible refine RO_bd (fail_fp _ (by decide)) ?_); intro x_ hx_) | ((with_reducible refine RO_bda ?_); intro x_)
theorem numberL_fp {v : T_Rd} {P : T_Rd → Prop} {k : Int32 → Int32 → Option T_Rd} (h : ∀ x y, RO P (k x y)) : ∀ n i j, RO P (f_Rd_readNumber_L10 v k n i j) := by
  intro n
  induction n with
  | zero => exact fun _ _ => RO_none
  | succ n ih =>
    intro i j
    rw [f_Rd_readNumber_L10]
    repeat first  | exact h _ _ | exact ih _ _ | exact RO_none | (with_reducible refine RO_nm ?_; try dsimp only) | ((with_reducible refine RO_if ?_ ?_) <;> intro _) | ((with_reducible refine RO_bd (fail_fp _ (by decide)) ?_); intro x_ hx_) | ((with_reducible refine RO_bda ?_); intro x_)
theorem word_fp (v : T_Rd) : RO (FPK v) (f_Rd_readWord v) := by
  unfold f_Rd_readWord
  refine wordL_fp (fun _ _ => RO_some ?_) _ _ _ _
  exact FPK_refl v
theorem number_fp (v : T_Rd) : RO (FPK v) (f_Rd_readNumber v) := by
  unfold f_Rd_readNumber
  refine numberL_fp (fun _ _ => RO_some ?_) _ _ _
  exact FPK_refl v
theorem advance_fp (v : T_Rd) : RO (FPK v) (f_Rd_advance v) := by
  unfold f_Rd_advance
  refine advL0_fp (fun x => ?_) _ _
  repeat first  | ((with_reducible refine RO_bd (word_fp _) ?_); intro x_ hx_) | ((with_reducible refine RO_bd (number_fp _) ?_); intro x_ hx_) | (refine RO_some ?_; first | exact FPK_refl _ | assumption | exact FPK_trans (by assumption) (by assumption) | exact FPK_trans (by assumption) (FPK_trans (by assumption) (by assumption))) | exact RO_none | (with_reducible refine RO_nm ?_; try dsimp only) | ((with_reducible refine RO_if ?_ ?_) <;> intro _) | ((with_reducible refine RO_bd (fail_fp _ (by decide)) ?_); intro x_ hx_) | ((with_reducible refine RO_bda ?_); intro x_)
theorem name_fp (v : T_Rd) (pr : T_Pg) (a : Int32) : RO (FPK v) (f_Rd_readName v pr a) := by
  unfold f_Rd_readName
  repeat first  | (refine RO_some ?_; first | exact FPK_refl _ | assumption | exact FPK_trans (by assumption) (by assumption) | exact FPK_trans (by assumption) (FPK_trans (by assumption) (by assumption))) | exact RO_none | (with_reducible refine RO_nm ?_; try dsimp only) | ((with_reducible refine RO_if ?_ ?_) <;> intro _) | ((with_reducible refine RO_bd (fail_fp _ (by decide)) ?_); intro x_ hx_) | ((with_reducible refine RO_bda ?_); intro x_)
theorem part_fp (v : T_Rd) (pr : T_Pg) (a b : Int32) : RO (FPK v) (f_Rd_readPart v pr a b) := by
  unfold f_Rd_readPart
  repeat first  | ((with_reducible refine RO_bd (name_fp _ _ _) ?_); intro x_ hx_) | (refine RO_some ?_; first | exact FPK_refl _ | assumption | exact FPK_trans (by assumption) (by assumption) | exact FPK_trans (by assumption) (FPK_trans (by assumption) (by assumption))) | exact RO_none | (with_reducible refine RO_nm ?_; try dsimp only) | ((with_reducible refine RO_if ?_ ?_) <;> intro _) | ((with_reducible refine RO_bd (fail_fp _ (by decide)) ?_); intro x_ hx_) | ((with_reducible refine RO_bda ?_); intro x_)
def FP2 (v : T_Rd) (x : T_Rd × T_Pg) : Prop := FPK v x.1
theorem takeL_fp {v : T_Rd} {a x4 : Int32} {P : T_Rd × T_Pg → Prop} {k : (Nat → Int32) → Option (T_Rd × T_Pg)} (h : ∀ x, RO P (k x)) : ∀ n i j, RO P (f_Rd_takeLine_L96 v a x4 k n i j) := by
  intro n
  induction n with
  | zero => exact fun _ _ => RO_none
  | succ n ih =>
    intro i j
    rw [f_Rd_takeLine_L96]
    repeat first  | exact h _ | exact ih _ _ | exact RO_none | (with_reducible refine RO_nm ?_; try dsimp only) | ((with_reducible refine RO_if ?_ ?_) <;> intro _) | ((with_reducible refine RO_bd (fail_fp _ (by decide)) ?_); intro x_ hx_) | ((with_reducible refine RO_bda ?_); intro x_)
theorem take_fp (v : T_Rd) (pr : T_Pg) (a : Int32) : RO (FP2 v) (f_Rd_takeLine v pr a) := by
  unfold f_Rd_takeLine
  repeat first  | exact takeL_fp (fun _ => RO_some (FPK_refl v)) _ _ _ | (refine RO_some ?_; exact FPK_refl v) | exact RO_none | (with_reducible refine RO_nm ?_; try dsimp only) | ((with_reducible refine RO_if ?_ ?_) <;> intro _) | ((with_reducible refine RO_bd (fail_fp _ (by decide)) ?_); intro x_ hx_) | ((with_reducible refine RO_bda ?_); intro x_)
theorem lineL_fp {v : T_Rd} {pr : T_Pg} {y : Int32} {P : T_Rd × T_Pg → Prop} {k : T_Rd → Option (T_Rd × T_Pg)} (h : ∀ x, FPK v x → RO P (k x)) : ∀ n i w, FPK v w → RO P (f_Rd_readLine_L109 pr y k n i w) := by
  intro n
  induction n with
  | zero => exact fun _ _ _ => RO_none
  | succ n ih =>
    intro i w hw
    rw [f_Rd_readLine_L109]
    repeat first  | exact h _ hw | exact ih _ _ hw | ((with_reducible refine RO_bd (advance_fp _) ?_); intro a ha) | ((with_reducible refine RO_bd (part_fp _ _ _ _) ?_); intro b hb) | exact ih _ _ (FPK_trans hw (FPK_trans ha hb)) | exact RO_none | (with_reducible refine RO_nm ?_; try dsimp only) | ((with_reducible refine RO_if ?_ ?_) <;> intro _) | ((with_reducible refine RO_bd (fail_fp _ (by decide)) ?_); intro x_ hx_) | ((with_reducible refine RO_bda ?_); intro x_)
theorem line_fp (v : T_Rd) (pr : T_Pg) : RO (FP2 v) (f_Rd_readLine v pr) := by
  have tail : ∀ (y1 : Int32) (w : T_Rd), FPK v w → RO (FP2 v) (if (Rd_fault w) = (0 : Int32) then (nm ((Pg_lines pr) + (1 : Int32)) fun (x25 : Int32) => (bd2 (f_Rd_takeLine w ((Pg_code pr), (Pg_first pr), (Pg_second pr), (Pg_third pr), (Pg_rules pr), (Pg_data pr), (Pg_names pr), (Pg_namedPlaces pr), (Pg_nameCount pr), (Pg_size pr), x25) y1) fun (v26 : T_Rd) (v27 : T_Pg) => (some (v26, v27)))) else (some (w, pr))) := by
    intro y1 w hw
    refine RO_if (fun _ => ?_) (fun _ => RO_some hw)
    refine RO_nm ?_
    refine RO_bd2 (take_fp _ _ _) (fun a b hab => RO_some ?_)
    exact FPK_trans hw hab
  unfold f_Rd_readLine
  repeat first  | exact tail _ _ (by assumption) | exact tail _ _ (FPK_trans (by assumption) (by assumption)) | exact tail _ _ (FPK_trans (by assumption) (FPK_trans (by assumption) (by assumption))) | (refine lineL_fp (v := v) (fun w hw => ?_) _ _ _ (by first | exact FPK_refl v | assumption)) | ((with_reducible refine RO_bd (advance_fp _) ?_); intro a ha) | exact RO_none | (with_reducible refine RO_nm ?_; try dsimp only) | ((with_reducible refine RO_if ?_ ?_) <;> intro _) | ((with_reducible refine RO_bd (fail_fp _ (by decide)) ?_); intro x_ hx_) | ((with_reducible refine RO_bda ?_); intro x_)
theorem textL_fp {v : T_Rd} {P : T_Rd × T_Pg → Prop} {k : T_Pg → T_Rd → Option (T_Rd × T_Pg)} (h : ∀ p x, FPK v x → RO P (k p x)) : ∀ n i p w, FPK v w → RO P (f_Rd_readText_L45 k n i p w) := by
  intro n
  induction n with
  | zero => exact fun _ _ _ _ => RO_none
  | succ n ih =>
    intro i p w hw
    rw [f_Rd_readText_L45]
    repeat first  | exact h _ _ hw | ((with_reducible refine RO_bd2 (line_fp _ _) ?_); intro a q ha) | ((with_reducible refine RO_bd (advance_fp _) ?_); intro b hb) | exact ih _ _ _ (FPK_trans hw (FPK_trans ha hb)) | exact RO_none | (with_reducible refine RO_nm ?_; try dsimp only) | ((with_reducible refine RO_if ?_ ?_) <;> intro _) | ((with_reducible refine RO_bd (fail_fp _ (by decide)) ?_); intro x_ hx_) | ((with_reducible refine RO_bda ?_); intro x_)
theorem namesL_fp {v : T_Rd} {pr : T_Pg} {P : T_Rd × T_Pg → Prop} {k : (Nat → Int32) → T_Rd → Option (T_Rd × T_Pg)} (h : ∀ p x, FPK v x → RO P (k p x)) : ∀ n i p w, FPK v w → RO P (f_Rd_findNames_L2 pr k n i p w) := by
  intro n
  induction n with
  | zero => exact fun _ _ _ _ => RO_none
  | succ n ih =>
    intro i p w hw
    rw [f_Rd_findNames_L2]
    repeat first  | exact h _ _ hw | exact ih _ _ _ hw | exact ih _ _ _ (FPK_trans hw (by assumption)) | exact RO_none | (with_reducible refine RO_nm ?_; try dsimp only) | ((with_reducible refine RO_if ?_ ?_) <;> intro _) | ((with_reducible refine RO_bd (fail_fp _ (by decide)) ?_); intro x_ hx_) | ((with_reducible refine RO_bda ?_); intro x_)
theorem readText_fp {rd rd' : T_Rd} {pr pr' : T_Pg} {a : Int32} (h : f_Rd_readText rd pr a = some (rd', pr')) (g : Rd_fault rd' = (0 : Int32)) : Rd_faultPlace rd' = (-1 : Int32) := by
  have key : RO (fun x : T_Rd × T_Pg => FPK ((Rd_tape rd), (0 : Int32), (0 : Int32), (-1 : Int32), (Rd_words rd), (Rd_sorts rd), (Rd_parts rd), (Rd_wantedPlaces rd), a, (0 : Int32), (Rd_token rd), (Rd_value rd), (Rd_place rd), (0 : Int32), (0 : Int32)) x.1) (f_Rd_readText rd pr a) := by
    unfold f_Rd_readText
    refine RO_bda (fun p => ?_)
    refine RO_bd (advance_fp _) (fun w hw => ?_)
    refine textL_fp (v := ((Rd_tape rd), (0 : Int32), (0 : Int32), (-1 : Int32), (Rd_words rd), (Rd_sorts rd), (Rd_parts rd), (Rd_wantedPlaces rd), a, (0 : Int32), (Rd_token rd), (Rd_value rd), (Rd_place rd), (0 : Int32), (0 : Int32))) (fun p x hx => ?_) _ _ _ _ hw
    refine RO_bd2 (Q := fun y : T_Rd × T_Pg => FPK x y.1) ?_ (fun a b hab => RO_some (FPK_trans hx hab))
    unfold f_Rd_findNames
    exact namesL_fp (v := x) (fun p y hy => RO_some hy) _ _ _ _ (FPK_refl x)
  exact (key _ h g).2
