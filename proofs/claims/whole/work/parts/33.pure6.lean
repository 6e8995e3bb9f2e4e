theorem fit_v (v : Int32) : mx2 0 (mn2 99 v) = if v < 0 then 0 else if v ≤ 99 then v else 99 := by
  have c : (99 : Int32).toInt = 99 := by decide
  unfold mx2 mn2
  by_cases h1 : v < 0
  · have q1 : v < 99 := by rw [ti_lt, ti_0] at h1; rw [ti_lt, c]; omega
    have q2 : ¬ (0 : Int32) < v := by rw [ti_lt, ti_0] at h1 ⊢; omega
    rw [if_pos h1, if_pos q1, if_neg q2]
  · rw [if_neg h1]
    rw [ti_lt, ti_0] at h1
    by_cases h2 : v < 99
    · rw [if_pos h2]
      have q1 : v ≤ 99 := by rw [ti_lt, c] at h2; rw [ti_le, c]; omega
      rw [if_pos q1]
      by_cases h3 : 0 < v
      · rw [if_pos h3]
      · rw [if_neg h3, ti_eq, ti_0]; rw [ti_lt, ti_0] at h3; omega
    · rw [if_neg h2, if_pos (by decide)]
      by_cases h3 : v ≤ 99
      · rw [if_pos h3, ti_eq, c]; rw [ti_lt, c] at h2; rw [ti_le, c] at h3; omega
      · rw [if_neg h3]
theorem i_fit {g : Nat → Int32} {x : Int32} (h : Inv g) : m_fit g x = grd g x := by
  unfold m_fit grd
  by_cases h1 : isf x = 0
  · rw [if_pos h1, if_pos h1]
  · obtain ⟨f, hf, rfl⟩ := isf_of h1
    have hn := i_n20 h hf
    rw [if_neg h1, if_neg h1, nI_clamp (by omega), fit_v]
    by_cases h2 : bn g f = 20
    · have e : ¬ nI (bn g f) < 20 := by rw [h2]; decide
      have e2 : nI (bn g f) = 20 := by rw [h2]; rfl
      rw [if_neg e, if_pos e2]
      split <;> rfl
    · have e : nI (bn g f) < 20 := (nI_ltI (b := 20) (by omega) (by omega)).mpr (by omega)
      have e2 : ¬ nI (bn g f) = 20 := fun q => h2 ((nI_eq (b := 20) (by omega) (by omega)).mp q)
      rw [if_pos e, if_neg e2]
