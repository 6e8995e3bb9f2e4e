/-! What is where -/
theorem i_fd {g : Nat → Int32} {f b : Nat} (h : Inv g) (hf : f < 2) (hb : b < bn g f) : (fd g f b).toInt = (lo g f b).toInt + (g (10 + 4 * (f * 20 + b) + 2)).toInt ∧ (fd g f b + g (10 + 4 * (f * 20 + b) + 0)).toInt = (lo g f b).toInt + (g (10 + 4 * (f * 20 + b) + 2)).toInt + (g (10 + 4 * (f * 20 + b) + 0)).toInt ∧ (lo g f b + wl g (f * 20 + b) - g (10 + 4 * (f * 20 + b) + 2)).toInt = (lo g f b).toInt + (g (10 + 4 * (f * 20 + b) + 2)).toInt + (g (10 + 4 * (f * 20 + b) + 0)).toInt := by
  obtain ⟨r1, r2, r3, r4, r5, r6⟩ := h.rows f b hf hb
  obtain ⟨l1, l2, l3⟩ := i_lo h hf hb
  have a2 := h.L2
  have w1 := (i_w h hf hb).2
  have ew : wI g (f * 20 + b) = (g (10 + 4 * (f * 20 + b) + 0)).toInt + 2 * (g (10 + 4 * (f * 20 + b) + 2)).toInt := rfl
  have e1 : (fd g f b).toInt = (lo g f b).toInt + (g (10 + 4 * (f * 20 + b) + 2)).toInt := by
    unfold fd; exact ti_add (by omega) (by omega)
  refine ⟨e1, ?_, ?_⟩
  · rw [ti_add (by omega) (by omega), e1]
  · rw [ti_sub (by omega) (by omega), l2]; omega
theorem i_side0 {g : Nat → Int32} {b : Nat} (h : Inv g) (hb : b < bn g 0) : (lo g 0 b).toInt + wI g (0 * 20 + b) ≤ (en g 0).toInt := by
  have m1 := i_mono h (f := 0) (by decide) (bn g 0) (b + 1) (by omega) (Nat.le_refl _)
  have e2 : fI g 0 (b + 1) = fI g 0 b + wI g (0 * 20 + b) := rfl
  rw [i_lo0 h hb, i_en0 h]
  omega
theorem i_side1 {g : Nat → Int32} {b : Nat} (h : Inv g) (hb : b < bn g 1) : (en g 1).toInt ≤ (lo g 1 b).toInt := by
  have m1 := i_mono h (f := 1) (by decide) (bn g 1) (b + 1) (by omega) (Nat.le_refl _)
  rw [i_lo1 h hb, i_en1 h]
  omega
theorem i_ends {g : Nat → Int32} (h : Inv g) : (en g 0).toInt < (en g 1).toInt := by
  have := h.gap; have := h.G1
  rw [i_en0 h, i_en1 h]
  omega
theorem wB {g : Nat → Int32} {f b : Nat} {y : Int32} (h : Inv g) (hf : f < 2) (hb : b < bn g f) (hy1 : -1000000 ≤ y.toInt) (hy2 : y.toInt ≤ 1000000) : (lo g f b + wl g (f * 20 + b) - g (10 + 4 * (f * 20 + b) + 2) ≤ y) ↔ (fd g f b + g (10 + 4 * (f * 20 + b) + 0) < y + 1) := by
  obtain ⟨e1, e2, e3⟩ := i_fd h hf hb
  rw [ti_le, ti_lt, e2, e3, ti_add (by rw [ti_1]; omega) (by rw [ti_1]; omega), ti_1]
  omega
theorem wlp_s {g : Nat → Int32} {x y : Int32} {r k : Nat} : wlp g x y (r + 1) k = if nI (bn g (k / 20)) ≤ nI (k % 20) then wlp g x y r (k + 1) else if x < fd g (k / 20) (k % 20) then wlp g x y r (k + 1) else if lo g (k / 20) (k % 20) + wl g (k / 20 * 20 + k % 20) - g (10 + 4 * (k / 20 * 20 + k % 20) + 2) ≤ y then wlp g x y r (k + 1) else nI k := rfl
theorem rwb_s {g : Nat → Int32} {x y : Int32} {f k b : Nat} : rwb g x y f (k + 1) b = if x < fd g f b then rwb g x y f k (b + 1) else if fd g f b + g (10 + 4 * (f * 20 + b) + 0) < y then rwb g x y f k (b + 1) else some (f * 20 + b) := rfl
theorem wlp_row {g : Nat → Int32} {x y : Int32} (h : Inv g) (hy1 : -1000000 ≤ y.toInt) (hy2 : y.toInt ≤ 1000000) {f : Nat} (hf : f < 2) (R : Nat) : ∀ r b, b + r = 20 → wlp g x y (r + R) (f * 20 + b) = (rwb g x (y + 1) f (bn g f - b) b).elim (wlp g x y R (f * 20 + 20)) nI
  | 0, b, hb => by
    have hn := i_n20 h hf
    obtain rfl : b = 20 := by omega
    rw [show bn g f - 20 = 0 by omega, Nat.zero_add]
    rfl
  | r + 1, b, hb => by
    have hn := i_n20 h hf
    have e1 : (f * 20 + b) / 20 = f := by omega
    have e2 : (f * 20 + b) % 20 = b := by omega
    have ih := wlp_row (x := x) h hy1 hy2 hf R r (b + 1) (by omega)
    rw [show r + 1 + R = (r + R) + 1 by omega, wlp_s, e1, e2]
    by_cases hlt : b < bn g f
    · have c0 : ¬ nI (bn g f) ≤ nI b := nI_ge hlt (by omega)
      rw [if_neg c0, show bn g f - b = (bn g f - (b + 1)) + 1 by omega, rwb_s]
      have cB := wB h hf hlt hy1 hy2
      by_cases c1 : x < fd g f b
      · rw [if_pos c1, if_pos c1]; exact ih
      · rw [if_neg c1, if_neg c1]
        by_cases c2 : fd g f b + g (10 + 4 * (f * 20 + b) + 0) < y + 1
        · rw [if_pos (cB.mpr c2), if_pos c2]; exact ih
        · rw [if_neg (fun q => c2 (cB.mp q)), if_neg c2]; rfl
    · have c0 : nI (bn g f) ≤ nI b := nI_le (by omega) (by omega)
      rw [if_pos c0, show bn g f - b = 0 by omega]
      rw [show bn g f - (b + 1) = 0 by omega] at ih
      exact ih
theorem wlp_all {g : Nat → Int32} {x y : Int32} (h : Inv g) (hy1 : -1000000 ≤ y.toInt) (hy2 : y.toInt ≤ 1000000) : wlp g x y 40 0 = if rwd g x (y + 1) < 0 then -6 else rwd g x (y + 1) := by
  have h0 := wlp_row (x := x) h hy1 hy2 (f := 0) (by omega) 20 20 0 rfl
  have h1 := wlp_row (x := x) h hy1 hy2 (f := 1) (by omega) 0 20 0 rfl
  have n0 := i_n20 h (f := 0) (by omega)
  have n1 := i_n20 h (f := 1) (by omega)
  have e : wlp g x y 40 0 = (rwb g x (y + 1) 0 (bn g 0) 0).elim ((rwb g x (y + 1) 1 (bn g 1) 0).elim (-6) nI) nI := h0.trans (congrArg (fun z => Option.elim (rwb g x (y + 1) 0 (bn g 0) 0) z nI) h1)
  have e2 : rwd g x (y + 1) = (rwb g x (y + 1) 0 (bn g 0) 0).elim ((rwb g x (y + 1) 1 (bn g 1) 0).elim (-1) nI) nI := rfl
  rw [e, e2]
  cases hr0 : rwb g x (y + 1) 0 (bn g 0) 0 with
  | some r =>
    obtain ⟨j, j1, j2, j3⟩ := rwb_lt _ _ hr0
    show nI r = if nI r < 0 then -6 else nI r
    rw [if_neg (nI_pos (by omega))]
  | none =>
    cases hr1 : rwb g x (y + 1) 1 (bn g 1) 0 with
    | some r =>
      obtain ⟨j, j1, j2, j3⟩ := rwb_lt _ _ hr1
      show nI r = if nI r < 0 then -6 else nI r
      rw [if_neg (nI_pos (by omega))]
    | none => rfl
theorem rwb_hit {g : Nat → Int32} {x y : Int32} {f : Nat} : ∀ (k b : Nat) {r : Nat}, rwb g x y f k b = some r → ∃ j, b ≤ j ∧ j < b + k ∧ r = f * 20 + j ∧ ¬ x < fd g f j ∧ ¬ fd g f j + g (10 + 4 * (f * 20 + j) + 0) < y
  | 0, _, _, h => by cases h
  | k + 1, b, r, h => by
    rw [rwb_s] at h
    by_cases c1 : x < fd g f b
    · rw [if_pos c1] at h
      obtain ⟨j, h1, h2, h3⟩ := rwb_hit k (b + 1) h
      exact ⟨j, by omega, by omega, h3⟩
    · rw [if_neg c1] at h
      by_cases c2 : fd g f b + g (10 + 4 * (f * 20 + b) + 0) < y
      · rw [if_pos c2] at h
        obtain ⟨j, h1, h2, h3⟩ := rwb_hit k (b + 1) h
        exact ⟨j, by omega, by omega, h3⟩
      · rw [if_neg c2] at h
        cases h
        exact ⟨b, by omega, by omega, rfl, c1, c2⟩
theorem rwd_hit {g : Nat → Int32} {x y : Int32} (h : ¬ rwd g x y < 0) : ∃ f j, f < 2 ∧ j < bn g f ∧ rwd g x y = nI (f * 20 + j) ∧ ¬ x < fd g f j ∧ ¬ fd g f j + g (10 + 4 * (f * 20 + j) + 0) < y := by
  have e2 : rwd g x y = (rwb g x y 0 (bn g 0) 0).elim ((rwb g x y 1 (bn g 1) 0).elim (-1) nI) nI := rfl
  rw [e2] at h ⊢
  cases hr0 : rwb g x y 0 (bn g 0) 0 with
  | some r =>
    obtain ⟨j, j1, j2, j3, j4, j5⟩ := rwb_hit _ _ hr0
    exact ⟨0, j, by omega, by omega, by rw [← j3]; rfl, j4, j5⟩
  | none =>
    cases hr1 : rwb g x y 1 (bn g 1) 0 with
    | some r =>
      obtain ⟨j, j1, j2, j3, j4, j5⟩ := rwb_hit _ _ hr1
      exact ⟨1, j, by omega, by omega, by rw [← j3]; rfl, j4, j5⟩
    | none =>
      rw [hr0, hr1] at h
      exact absurd (show (-1 : Int32) < 0 by decide) h
/-- in the gap there is no block -/
theorem gap_no {g : Nat → Int32} {x y : Int32} (h : Inv g) (hxy : x < y) (hi : ¬ iig g x y = 0) : rwd g x y < 0 := by
  refine Classical.byContradiction fun hr => ?_
  obtain ⟨f, j, hf, hj, -, c1, c2⟩ := rwd_hit hr
  obtain ⟨e1, e2, e3⟩ := i_fd h hf hj
  have hm := h.rows f j hf hj
  have ew : wI g (f * 20 + j) = (g (10 + 4 * (f * 20 + j) + 0)).toInt + 2 * (g (10 + 4 * (f * 20 + j) + 2)).toInt := rfl
  have h12 : ¬ x < en g 0 ∧ ¬ en g 1 < y := by
    unfold iig at hi
    by_cases q : x < en g 0
    · rw [if_pos q] at hi; exact absurd rfl hi
    · rw [if_neg q] at hi
      by_cases q2 : en g 1 < y
      · rw [if_pos q2] at hi; exact absurd rfl hi
      · exact ⟨q, q2⟩
  obtain ⟨h1, h2⟩ := h12
  rw [ti_lt] at c1 c2 h1 h2 hxy
  rw [e1] at c1
  rw [e2] at c2
  rcases (show f = 0 ∨ f = 1 by omega) with rfl | rfl
  · have := i_side0 h hj
    omega
  · have := i_side1 h hj
    omega
theorem m_wi_e {g : Nat → Int32} {x y : Int32} (h : Inv g) (hy1 : -1000000 ≤ y.toInt) (hy2 : y.toInt ≤ 1000000) : m_wi g x y = if iig g x (y + 1) = 0 then (if rwd g x (y + 1) < 0 then -6 else rwd g x (y + 1)) else -1 := by
  have n1 : ¬ ((1 : Int32) = 0) := by decide
  unfold m_wi iig
  rw [wlp_all h hy1 hy2]
  by_cases c1 : x < en g 0
  · simp only [c1, ↓reduceIte]
  · have e : (en g 1 ≤ y) ↔ (en g 1 < y + 1) := by
      rw [ti_le, ti_lt, ti_add (by rw [ti_1]; omega) (by rw [ti_1]; omega), ti_1]
      omega
    by_cases c2 : en g 1 < y + 1
    · simp only [c1, c2, e.mpr c2, ↓reduceIte]
    · have c3 : ¬ en g 1 ≤ y := fun q => c2 (e.mp q)
      simp only [c1, c2, c3, n1, ↓reduceIte]
theorem i_at {g : Nat → Int32} {x : Int32} (h : Inv g) : m_at g x = kof g x := by
  have a1 := h.L1; have a2 := h.L2
  unfold m_at kof
  rw [inr_le]
  by_cases h1 : x < 0
  · simp only [h1, ↓reduceIte]
  · by_cases h2 : x < g 0
    · have x1 : 0 ≤ x.toInt := by rw [ti_lt, ti_0] at h1; omega
      have x2 : x.toInt < (g 0).toInt := ti_lt.mp h2
      have h3 : x ≤ g 0 - 1 := by rw [ti_le, ti_sub (by rw [ti_1]; omega) (by rw [ti_1]; omega), ti_1]; omega
      have n1 : ¬ ((1 : Int32) = 0) := by decide
      have n2 : ¬ ((-6 : Int32) = -1) := by decide
      have n3 : (-6 : Int32) < 0 := by decide
      have xe : (x + 1).toInt = x.toInt + 1 := by rw [ti_add (by rw [ti_1]; omega) (by rw [ti_1]; omega), ti_1]
      rw [m_wi_e h (by omega) (by omega)]
      simp only [h1, h2, h3, n1, ↓reduceIte]
      by_cases h4 : iig g x (x + 1) = 0
      · by_cases h5 : rwd g x (x + 1) < 0
        · have h6 : ¬ 0 ≤ rwd g x (x + 1) := fun q => absurd h5 (Int32.not_lt.mpr q)
          simp only [h4, h5, h6, n2, n3, ↓reduceIte]
        · obtain ⟨f, j, hf, hj, er, c1, c2⟩ := rwd_hit h5
          have hn := i_n20 h hf
          obtain ⟨e1, e2, e3⟩ := i_fd h hf hj
          have hm := h.rows f j hf hj
          have ew : wI g (f * 20 + j) = (g (10 + 4 * (f * 20 + j) + 0)).toInt + 2 * (g (10 + 4 * (f * 20 + j) + 2)).toInt := rfl
          have k1 : ¬ nI (f * 20 + j) = -1 := fun q => by
            have := congrArg Int32.toInt q
            rw [nI_toInt (by omega), show (-1 : Int32).toInt = -1 by decide] at this
            omega
          have k2 : ¬ nI (f * 20 + j) < 0 := nI_pos (by omega)
          have k3 : 0 ≤ nI (f * 20 + j) := nI_pos' (by omega)
          have k4 : nI (f * 20 + j) / 20 = nI f := by
            have := pk_div (a := f * 20 + j) (d := 20) (by omega) (by decide) (by decide)
            rw [show (f * 20 + j) / 20 = f by omega] at this
            exact this
          rw [ti_lt] at c1 c2
          rw [e1] at c1
          rw [e2, xe] at c2
          rw [er]
          simp only [h4, k1, k2, k3, k4, ↓reduceIte]
          rcases (show f = 0 ∨ f = 1 by omega) with rfl | rfl
          · have := i_side0 h hj
            have k5 : ¬ en g 0 ≤ x := by rw [ti_le]; omega
            rw [if_neg k5]
            decide
          · have := i_side1 h hj
            have := i_ends h
            have k5 : en g 0 ≤ x := by rw [ti_le]; omega
            rw [if_pos k5]
            decide
      · simp only [h4, ↓reduceIte]
    · have h3 : ¬ x ≤ g 0 - 1 := by
        rw [ti_lt] at h2
        rw [ti_le, ti_sub (by rw [ti_1]; omega) (by rw [ti_1]; omega), ti_1]; omega
      simp only [h1, h2, h3, ↓reduceIte]
