theorem i_len {g : Nat → Int32} {x : Int32} (h : Inv g) : m_len g x = ((s_len g x).1, (s_len g x).2, decide (0 ≤ (s_len g x).1)) ∧ Inv (s_len g x).2 := by
  have a1 := h.L1; have a2 := h.L2; have a3 := h.H1; have a4 := h.H2; have a5 := h.G2
  have z0 := (h.bN 0 (by omega)).2
  have z1 := (h.bN 1 (by omega)).2
  unfold m_len s_len
  rw [inr_le]
  by_cases h1 : x < 100
  · simp only [h1, ↓reduceIte]; exact ⟨rfl, h⟩
  · by_cases h2 : x ≤ 2000
    · have n1 : ¬ ((1 : Int32) = 0) := by decide
      simp only [h1, h2, n1, ↓reduceIte]
      by_cases h3 : 0 < nI (bn g 0 + bn g 1)
      · simp only [h3, ↓reduceIte]; exact ⟨rfl, h⟩
      · by_cases h4 : g 4 ≤ 0
        · have b0 : (0 : Int32) ≤ g 0 := by rw [ti_le, ti_0]; exact a1
          have hb : bn g 0 + bn g 1 = 0 := by
            rcases Nat.eq_zero_or_pos (bn g 0 + bn g 1) with q | q
            · exact q
            · exact absurd (show nI 0 < nI (bn g 0 + bn g 1) from (nI_ltI (by omega) (by omega)).mpr q) h3
          have x1 : 100 ≤ x.toInt := by
            rw [ti_lt, show (100 : Int32).toInt = 100 by decide] at h1; omega
          have x2 : x.toInt ≤ 2000 := by
            rw [ti_le, show (2000 : Int32).toInt = 2000 by decide] at h2; exact h2
          simp only [h3, h4, ↓reduceIte, b0, decide_true]
          have e3 : upd g 0 x 3 = g 3 := pk_un (by omega)
          have e0 : upd g 0 x 0 = x := pk_us ..
          rw [e3, e0]
          have em : mn2 (g 3) x = if g 3 ≤ x then g 3 else x := by
            unfold mn2
            by_cases q : g 3 ≤ x
            · rw [if_pos q, if_neg (Int32.not_lt.mpr q)]
            · rw [if_neg q, if_pos (Int32.not_le.mp q)]
          rw [em]
          refine ⟨rfl, ?_⟩
          have m1 : 0 ≤ (if g 3 ≤ x then g 3 else x).toInt ∧ (if g 3 ≤ x then g 3 else x).toInt ≤ x.toInt := by
            split
            · rename_i q; exact ⟨a3, ti_le.mp q⟩
            · exact ⟨by omega, by omega⟩
          generalize (if g 3 ≤ x then g 3 else x) = y at m1
          obtain ⟨g', hg⟩ : ∃ z, z = upd (upd g 0 x) 3 y := ⟨_, rfl⟩
          rw [← hg]
          have k0 : g' 0 = x := by rw [hg, pk_un (by omega), pk_us]
          have k3 : g' 3 = y := by rw [hg, pk_us]
          have ku : ∀ k, k ≠ 0 → k ≠ 3 → g' k = g k := fun k q1 q2 => by rw [hg, pk_un q2, pk_un q1]
          have kb : ∀ f, f < 2 → bn g' f = bn g f := fun f hf => by unfold bn; rw [ku (8 + f) (by omega) (by omega)]
          unfold Inv
          rw [k0, k3, ku 1 (by omega) (by omega), ku 2 (by omega) (by omega), ku 4 (by omega) (by omega), kb 0 (by omega), kb 1 (by omega), show bn g 0 = 0 by omega, show bn g 1 = 0 by omega]
          refine ⟨fun f hf => ?_, by omega, x2, h.G1, h.G2, h.M1, h.M2, m1.1, m1.2, h.S1, h.S2, fun f b hf hb2 => ?_, ?_⟩
          · rw [ku (8 + f) (by omega) (by omega), kb f hf]; exact h.bN f hf
          · rw [kb f hf] at hb2
            rcases (show f = 0 ∨ f = 1 by omega) with rfl | rfl <;> omega
          · show (0 : Int) + 0 + _ ≤ _
            omega
        · simp only [h3, h4, ↓reduceIte]; exact ⟨rfl, h⟩
    · simp only [h1, h2, ↓reduceIte]; exact ⟨rfl, h⟩
