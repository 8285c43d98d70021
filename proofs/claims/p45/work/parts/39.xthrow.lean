/-! the words of the three exceptions that the class makes -/
def nmX : List String := ["java/lang/RuntimeException", "java/lang/Exception"]
def hatB (ic : Nat) (X : String) : Bool := (vx_atS "CellWindows" ic X nmX).all (fun w => (goodWord w && lw_tbl.contains w) || (nwOK w && tables_1.contains w))
theorem hat_of {ic : Nat} {X : String} (h : hatB ic X = true) : ∀ w ∈ vx_atS "CellWindows" ic X nmX, w ∈ WA ∨ w ∈ WN := by
  intro w hw
  have h1 := List.all_eq_true.mp h w hw
  rcases Bool.or_eq_true_iff.mp h1 with h2 | h2
  · have h3 := Bool.and_eq_true_iff.mp h2
    exact Or.inl (List.mem_filter.mpr ⟨List.contains_iff_mem.mp h3.2, h3.1⟩)
  · have h3 := Bool.and_eq_true_iff.mp h2
    exact Or.inr (List.mem_filter.mpr ⟨List.contains_iff_mem.mp h3.2, h3.1⟩)
theorem hat_IAE : ∀ w ∈ vx_atS "CellWindows" 279 "java/lang/IllegalArgumentException" nmX, w ∈ WA ∨ w ∈ WN := hat_of (by decide +kernel)
theorem hat_IOB : ∀ w ∈ vx_atS "CellWindows" 142 "java/lang/IndexOutOfBoundsException" nmX, w ∈ WA ∨ w ∈ WN := hat_of (by decide +kernel)
theorem hat_ISE : ∀ w ∈ vx_atS "CellWindows" 81 "java/lang/IllegalStateException" nmX, w ∈ WA ∨ w ∈ WN := hat_of (by decide +kernel)
theorem hgd_IAE : ∀ w ∈ Cond.classLink "CellWindows" 275 "java/lang/IllegalArgumentException" :: Cond.initialized "java/lang/IllegalArgumentException" :: vx_atS "CellWindows" 279 "java/lang/IllegalArgumentException" nmX, vx_ot w = true := by decide +kernel
theorem hgd_IOB : ∀ w ∈ Cond.classLink "CellWindows" 138 "java/lang/IndexOutOfBoundsException" :: Cond.initialized "java/lang/IndexOutOfBoundsException" :: vx_atS "CellWindows" 142 "java/lang/IndexOutOfBoundsException" nmX, vx_ot w = true := by decide +kernel
theorem hgd_ISE : ∀ w ∈ Cond.classLink "CellWindows" 77 "java/lang/IllegalStateException" :: Cond.initialized "java/lang/IllegalStateException" :: vx_atS "CellWindows" 81 "java/lang/IllegalStateException" nmX, vx_ot w = true := by decide +kernel
