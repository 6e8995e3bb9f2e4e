theorem fit_v (v : Int32) : mx2 0 (mn2 99 v) = if v < 0 then 0 else if v ≤ 99 then v else 99 := by
  have c : (99 : Int32).toInt = 99 := by decide
  unfold mx2 mn2
  by_cases h1 : v < 0
  · have q1 : v < 99 := by rw [ti_lt, ti_0] at h1; rw [ti_lt, c]; omega
    have q2 : ¬ (0 : Int32) < v := by rw [ti_lt, ti_0] at h1 ⊢; omega
    rw [if_pos h1, if_pos q1, if_neg q2]
  · rw [if_neg h1]
    rw [ti_lt, ti_0] at h1
    by_cases h2 : v < 99
    · rw [if_pos h2]
      have q1 : v ≤ 99 := by rw [ti_lt, c] at h2; rw [ti_le, c]; omega
      rw [if_pos q1]
      by_cases h3 : 0 < v
      · rw [if_pos h3]
      · rw [if_neg h3, ti_eq, ti_0]; rw [ti_lt, ti_0] at h3; omega
    · rw [if_neg h2, if_pos (by decide)]
      by_cases h3 : v ≤ 99
      · rw [if_pos h3, ti_eq, c]; rw [ti_lt, c] at h2; rw [ti_le, c] at h3; omega
      · rw [if_neg h3]
