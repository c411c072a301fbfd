theorem cx_nzf {x : Int32} (h : ¬ ¬ (x = 0 ∨ x = 1)) : fits .boolean (.int x) = true := by
  rcases Classical.not_not.mp h with rfl | rfl <;> rfl
