/-! floats: the class's and the model's agree -/
theorem F_of (x : Int32) : ∃ y, f_Fl_ofWhole x = some y ∧ f_M_cut (FP.i2d x) = some y := sorry
theorem F_whole (x : Int32) : ∃ y, f_Fl_toWhole x = some y ∧ f_M_whole x = some y := sorry
theorem F_sum (x y : Int32) : ∃ z, f_Fl_sum x y = some z ∧ f_M_added x y = some z := sorry
theorem F_prod (x y : Int32) : ∃ z, f_Fl_product x y = some z ∧ f_M_multiplied x y = some z := sorry
theorem F_under (x y : Int32) (p q : Int32) : ∃ g, g < 2 ∧ f_Fl_isUnder x y = some (NN g) ∧ f_M_goesBy (NN 23) p q x y = some (NN g) := sorry
