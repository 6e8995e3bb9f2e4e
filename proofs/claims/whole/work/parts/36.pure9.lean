theorem rem10_n {n : Nat} (h : n < 2 ^ 31) : rem10 (nI n) = nI (n % 10) := pk_rem (d := 10) h (by decide) (by decide)
theorem i_rv {g : Nat → Int32} {f b w : Nat} (h : Inv g) (hf : f < 2) (hb : b < bn g f) (hw : w < 2) : m_rv g f b w = s_rv g f b w ∧ 0 ≤ (s_rv g f b w).1 ∧ Inv (s_rv g f b w).2 := by
  have a2 := h.L2
  obtain ⟨e1, e2⟩ := i_sr h hf hb w
  have h1 : Inv (tv g (sr g f b w)) := i_tv h e1 e2
  obtain ⟨e3, e4⟩ := i_sr h1 hf (by rw [bnv]; exact hb) (1 - w)
  have e5 : (tv g (sr g f b w)) 0 = g 0 := tv_un (by omega) (by omega)
  rw [e5] at e4
  have hn := i_n20 h hf
  have e : m_rv g f b w = s_rv g f b w := by
    unfold m_rv s_rv
    dsimp only
    rw [i_tvm h e1 (by omega), i_tvm h1 e3 (by omega)]
  refine ⟨e, ?_, ?_⟩
  · obtain ⟨r1, r2, r3, r4, r5, r6⟩ := h.rows f b hf hb
    obtain ⟨u, hu, hu2⟩ := nI_of (x := g (10 + 4 * (f * 20 + b) + 1)) (by rw [ti_lt, ti_0]; omega)
    rw [hu2, nI_toInt hu] at r6
    unfold s_rv
    dsimp only
    rw [pk_un (by omega), pk_un (by omega), tv_un (by omega) (by omega), tv_un (by omega) (by omega), hu2, nI_add, nI_add, rem10_n (by omega)]
    exact nI_le (a := 0) (by omega) (by omega)
  · refine i_same (g := g) h (fun k q3 q5 q6 q7 qr => ?_) ?_ ?_
    · unfold s_rv
      dsimp only
      rw [pk_un q7, pk_un (by omega), tv_un q3 q6, tv_un q3 q6]
    · unfold s_rv
      dsimp only
      rw [pk_un (by omega), pk_un (by omega), tv3]
      exact e3
    · unfold s_rv
      dsimp only
      rw [pk_un (by omega), pk_un (by omega), tv3]
      exact e4
theorem i_rd {g : Nat → Int32} {x y z : Int32} (h : Inv g) : m_rd g x y z = ((s_rd g x y z).1, (s_rd g x y z).2, decide (0 ≤ (s_rd g x y z).1)) ∧ Inv (s_rd g x y z).2 := by
  have z1 : ¬ (0 : Int32) ≤ -1 := by decide
  have z2 : ¬ (0 : Int32) ≤ -2 := by decide
  have z0 : (0 : Int32) ≤ 0 := by decide
  unfold m_rd s_rd m_rf
  by_cases h1 : ibk g x y = 0
  · simp only [h1, z1, ↓reduceIte]; first | exact ⟨rfl, h⟩ | exact ⟨trivial, h⟩
  · obtain ⟨f, b, hf, hb, rfl, rfl⟩ := ibk_of h1 h.bN
    have hn := i_n20 h hf
    simp only [h1, ↓reduceIte]
    rw [nI_clamp (n := f) (by omega), nI_clamp (n := b) (by omega), inr_f]
    by_cases h2 : isf z = 0
    · have q0 : ¬ z = 0 := fun q => by rw [q] at h2; exact absurd h2 (by decide)
      have q1 : ¬ z = 1 := fun q => by rw [q] at h2; exact absurd h2 (by decide)
      simp only [h2, q0, q1, z2, ↓reduceIte]; first | exact ⟨rfl, h⟩ | exact ⟨trivial, h⟩
    · obtain ⟨w, hw, rfl⟩ := isf_of h2
      obtain ⟨w1, w2, w3⟩ := i_rv (w := w) h hf hb hw
      have es : (if nI w = 0 then s_rv g f b 0 else if nI w = 1 then s_rv g f b 1 else (-2, g)) = s_rv g f b w := by
        rcases (show w = 0 ∨ w = 1 by omega) with rfl | rfl
        · exact if_pos rfl
        · rw [if_neg (by decide)]; exact if_pos rfl
      rw [if_neg h2, if_pos z0, es, nI_clamp (n := w) (by omega), w1, decide_eq_true w2]
      exact ⟨rfl, w3⟩
theorem i_rne {g : Nat → Int32} {x : Int32} (h : Inv g) : ¬ x < 1 → x ≤ 99 → (1 : Int32) ≤ x + 2 * g 2 := fun h1 h2 => by
  have a1 := h.M1; have a2 := h.M2
  have c2 := ti_mul2 (a := g 2) (by omega) (by omega)
  rw [ti_lt, ti_1] at h1
  rw [ti_le, show (99 : Int32).toInt = 99 by decide] at h2
  rw [ti_le, ti_1, ti_add (by omega) (by omega), c2]
  omega
theorem i_rnz {g : Nat → Int32} {x : Int32} (h : Inv g) : inr x 1 99 = 0 ∨ ¬ x + 2 * g 2 = 0 := by
  rw [inr_le]
  by_cases h1 : x < 1
  · rw [if_pos h1]; exact Or.inl rfl
  · by_cases h2 : x ≤ 99
    · have := i_rne h h1 h2
      exact Or.inr (fun q => by rw [q] at this; exact absurd this (by decide))
    · rw [if_neg h1, if_neg h2]; exact Or.inl rfl
theorem i_roo {g : Nat → Int32} {x : Int32} (h : Inv g) : m_roo g x = btf g x := by
  have n1 : ¬ ((1 : Int32) = 0) := by decide
  unfold m_roo btf
  rw [inr_le]
  by_cases h1 : x < 1
  · simp only [h1, ↓reduceIte]
  · by_cases h2 : x ≤ 99
    · have e3 := i_rne h h1 h2
      have e4 : 40 - nI (bn g 0) - nI (bn g 1) = 40 - nI (bn g 0 + bn g 1) := by
        rw [← nI_add]; grind
      simp only [h1, h2, n1, e3, ↓reduceIte]
      rw [e4]
      unfold mn2
      generalize (gp g - g 1) / (x + 2 * g 2) = q
      generalize 40 - nI (bn g 0 + bn g 1) = v
      by_cases h5 : v ≤ q
      · rw [if_pos h5, if_neg (Int32.not_lt.mpr h5)]
      · rw [if_neg h5, if_pos (Int32.not_le.mp h5)]
    · simp only [h1, h2, ↓reduceIte]
