theorem i_abl {g : Nat → Int32} {x y z : Int32} (h : Inv g) : m_abl g x y z = abl g x y z := by
  unfold m_abl abl
  by_cases h1 : ibk g x y = 0
  · rw [if_pos h1, if_pos h1]
  · rw [if_neg h1, if_neg h1]
    obtain ⟨f, b, hf, hb, rfl, rfl⟩ := ibk_of h1 h.bN
    have hn := i_n20 h hf
    rw [nI_clamp (by omega), nI_clamp (by omega)]
    unfold m_abv abv
    rw [i_tr h hf hb 0, i_tr h hf hb 1]
