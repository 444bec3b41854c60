theorem nI_one : nI 1 = 1 := rfl
theorem narB (b : Bool) : narrow .boolean (.int (b2i b)) = .int (b2i b) := by cases b <;> rfl
theorem okI_lt {x : Int32} {n : Nat} (h : okI x n) : gN x < n := h.2
