/-! Longs compared. -/
theorem lgt3 (x y : Int64) : (lg_cmp x y).toInt = if y.toInt < x.toInt then 1 else if x.toInt = y.toInt then 0 else -1 := by
  unfold lg_cmp
  by_cases a : x > y
  · have b : y.toInt < x.toInt := Int64.lt_iff_toInt_lt.mp a
    rw [if_pos a, if_pos b]
    decide
  · have b : ¬ y.toInt < x.toInt := fun z => a (Int64.lt_iff_toInt_lt.mpr z)
    rw [if_neg a, if_neg b]
    by_cases e : x = y
    · rw [if_pos e, if_pos (congrArg Int64.toInt e)]
      decide
    · rw [if_neg e, if_neg (fun z => e (Int64.toInt_inj.mp z))]
      decide
theorem lgt_le (x y : Int64) : mx_f1 .le (lg_cmp x y) = decide (x.toInt ≤ y.toInt) := by
  rw [f1_le, lgt3, decide_eq_decide]
  split
  · omega
  · split <;> omega
theorem lgt_gt (x y : Int64) : mx_f1 .gt (lg_cmp x y) = decide (y.toInt < x.toInt) := by
  rw [f1_gt, lgt3, decide_eq_decide]
  split
  · omega
  · split <;> omega
