/-! words for the reference's feed -/
theorem ten9 {x : Int32} : (10 ≤ x) = (9 < x) := propext nine.symm
theorem le_of5 {x a b : Int32} (h : ∀ y : Int32, b ≤ y ↔ a < y) : decide (b ≤ x) = decide (a < x) := decide_eq_decide.mpr (h x)
theorem col05 {x : Int32} : colIn 0 x = (!decide (x < 0) && !decide (5 < x)) := by
  unfold colIn
  congr 2
theorem col1015 {x : Int32} : colIn 10 x = (!decide (x < 10) && !decide (15 < x)) := by
  unfold colIn
  congr 2
theorem tok_w {k x : Int32} (h : k = 0) : tokOK k x = (!decide (x < 0) && !decide (13 < x)) := by unfold tokOK; rw [if_pos h]
theorem tok_t {k x : Int32} (h0 : ¬ k = 0) (h : k = 1) : tokOK k x = (!decide (x < 0) && !decide (9 < x)) := by
  unfold tokOK
  rw [if_neg h0, if_pos h]
  congr 2
