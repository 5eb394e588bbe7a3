/-! this part stands here so that a first round on a new machine goes over the whole library from the start (part 25 needs it) -/
theorem wide_0 {a : Int32} (h : ¬ a = 0) : a.toInt ≠ 0 := FP.Core.int32_ne h
