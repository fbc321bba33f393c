/-! the words of what is thrown -/
abbrev eIAE : String := "java/lang/IllegalArgumentException"
theorem at_IAE : ∀ w ∈ vx_atS RX9 71 eIAE exN, w ∈ lw_tbl ∧ dcw w = true := by
  have h : (vx_atS RX9 71 eIAE exN).all (fun w => decide (w ∈ lw_tbl) && dcw w) = true := by decide +kernel
  intro w hw
  have h1 := List.all_eq_true.mp h w hw
  rw [Bool.and_eq_true] at h1
  exact ⟨of_decide_eq_true h1.1, h1.2⟩
theorem ot_IAE : ∀ w ∈ Cond.classLink RX9 67 eIAE :: Cond.initialized eIAE :: vx_atS RX9 71 eIAE exN, vx_ot w = true := by
  have h : (Cond.classLink RX9 67 eIAE :: Cond.initialized eIAE :: vx_atS RX9 71 eIAE exN).all vx_ot = true := by decide +kernel
  exact fun w hw => List.all_eq_true.mp h w hw
abbrev eISE : String := "java/lang/IllegalStateException"
theorem at_ISE : ∀ w ∈ vx_atS RX9 82 eISE exN, w ∈ lw_tbl ∧ dcw w = true := by
  have h : (vx_atS RX9 82 eISE exN).all (fun w => decide (w ∈ lw_tbl) && dcw w) = true := by decide +kernel
  intro w hw
  have h1 := List.all_eq_true.mp h w hw
  rw [Bool.and_eq_true] at h1
  exact ⟨of_decide_eq_true h1.1, h1.2⟩
theorem ot_ISE : ∀ w ∈ Cond.classLink RX9 78 eISE :: Cond.initialized eISE :: vx_atS RX9 82 eISE exN, vx_ot w = true := by
  have h : (Cond.classLink RX9 78 eISE :: Cond.initialized eISE :: vx_atS RX9 82 eISE exN).all vx_ot = true := by decide +kernel
  exact fun w hw => List.all_eq_true.mp h w hw
abbrev eIOB : String := "java/lang/IndexOutOfBoundsException"
theorem at_IOB : ∀ w ∈ vx_atS RX9 329 eIOB exN, w ∈ lw_tbl ∧ dcw w = true := by
  have h : (vx_atS RX9 329 eIOB exN).all (fun w => decide (w ∈ lw_tbl) && dcw w) = true := by decide +kernel
  intro w hw
  have h1 := List.all_eq_true.mp h w hw
  rw [Bool.and_eq_true] at h1
  exact ⟨of_decide_eq_true h1.1, h1.2⟩
theorem ot_IOB : ∀ w ∈ Cond.classLink RX9 325 eIOB :: Cond.initialized eIOB :: vx_atS RX9 329 eIOB exN, vx_ot w = true := by
  have h : (Cond.classLink RX9 325 eIOB :: Cond.initialized eIOB :: vx_atS RX9 329 eIOB exN).all vx_ot = true := by decide +kernel
  exact fun w hw => List.all_eq_true.mp h w hw
theorem th_69 : xTh RX9 67 69 71 eIAE "no such width" := ⟨xi3 68 rfl rfl, xi1 12 rfl rfl, xj3 110 rfl, at_IAE, ot_IAE, by decide +kernel, by decide +kernel⟩
theorem th_80 : xTh RX9 78 80 82 eISE "there are 8 boxes" := ⟨xi3 136 rfl rfl, xi1 13 rfl rfl, xj3 145 rfl, at_ISE, ot_ISE, by decide +kernel, by decide +kernel⟩
theorem th_122 : xTh RX9 67 122 71 eIAE "no such kind, mark or worth" := ⟨xi3 68 rfl rfl, xi1 12 rfl rfl, xj4 8 rfl, at_IAE, ot_IAE, by decide +kernel, by decide +kernel⟩
theorem th_176 : xTh RX9 67 176 71 eIAE "no direction" := ⟨xi3 68 rfl rfl, xi1 12 rfl rfl, xj4 165 rfl, at_IAE, ot_IAE, by decide +kernel, by decide +kernel⟩
theorem th_220 : xTh RX9 67 220 71 eIAE "no such what" := ⟨xi3 68 rfl rfl, xi1 12 rfl rfl, xj4 178 rfl, at_IAE, ot_IAE, by decide +kernel, by decide +kernel⟩
theorem th_312 : xTh RX9 67 312 71 eIAE "no such how" := ⟨xi3 68 rfl rfl, xi1 12 rfl rfl, xj5 66 rfl, at_IAE, ot_IAE, by decide +kernel, by decide +kernel⟩
theorem th_327 : xTh RX9 325 327 329 eIOB "no such box or row" := ⟨xi3 181 rfl rfl, xi1 15 rfl rfl, xj3 190 rfl, at_IOB, ot_IOB, by decide +kernel, by decide +kernel⟩
