theorem i_tun {g : Nat → Int32} {x y : Int32} (h : Inv g) : m_tun g x y = ((s_tun g x y).1, (s_tun g x y).2, decide (0 ≤ (s_tun g x y).1)) ∧ Inv (s_tun g x y).2 := by
  have a5 := h.G1; have a6 := h.G2; have a7 := h.M1; have a8 := h.M2
  have n1 : ¬ ((1 : Int32) = 0) := by decide
  unfold m_tun s_tun
  rw [inr_le, inr_le]
  by_cases h1 : x < 1
  · simp only [h1, ↓reduceIte]; first | exact ⟨rfl, h⟩ | exact ⟨trivial, h⟩
  · by_cases h2 : x ≤ 99
    · have h2' : ¬ 99 < x := Int32.not_lt.mpr h2
      by_cases h3 : y < 1
      · simp only [h1, h2, h2', h3, n1, ↓reduceIte]; first | exact ⟨rfl, h⟩ | exact ⟨trivial, h⟩
      · by_cases h4 : y ≤ 9
        · by_cases h5 : x ≤ gp g
          · have c1 : (100 * g 2).toInt = 100 * (g 2).toInt := by
              rw [Int32.toInt_mul, show (100 : Int32).toInt = 100 by decide]; exact Int.bmod_eq_of_le (by omega) (by omega)
            have b0 : (0 : Int32) ≤ g 1 + 100 * g 2 := by
              rw [ti_le, ti_0, ti_add (by omega) (by omega)]; omega
            simp only [h1, h2, h2', h3, h4, h5, n1, ↓reduceIte, b0, decide_true]
            first | refine ⟨rfl, ?_⟩ | refine ⟨trivial, ?_⟩
            have x1 : 1 ≤ x.toInt := by rw [ti_lt, ti_1] at h1; omega
            have x2 : x.toInt ≤ 99 := by rw [ti_le, show (99 : Int32).toInt = 99 by decide] at h2; exact h2
            have y1 : 1 ≤ y.toInt := by rw [ti_lt, ti_1] at h3; omega
            have y2 : y.toInt ≤ 9 := by rw [ti_le, show (9 : Int32).toInt = 9 by decide] at h4; exact h4
            have hg5 := ti_le.mp h5
            rw [i_gp h] at hg5
            obtain ⟨g', hg⟩ : ∃ z, z = upd (upd g 1 x) 2 y := ⟨_, rfl⟩
            rw [← hg]
            have k1 : g' 1 = x := by rw [hg, pk_un (by omega), pk_us]
            have k2 : g' 2 = y := by rw [hg, pk_us]
            have ku : ∀ k, k ≠ 1 → k ≠ 2 → g' k = g k := fun k q1 q2 => by rw [hg, pk_un q2, pk_un q1]
            have kb : ∀ f, bn g' f = bn g f := fun f => by unfold bn; rw [ku (8 + f) (by omega) (by omega)]
            have ew : ∀ r, wI g' r = wI g r := fun r => by unfold wI; rw [ku _ (by omega) (by omega), ku _ (by omega) (by omega)]
            have ef : ∀ f n, fI g' f n = fI g f n := fun f n => by
              induction n with
              | zero => rfl
              | succ n ih => show fI g' f n + wI g' _ = fI g f n + wI g _; rw [ih, ew]
            unfold Inv
            rw [k1, k2, ku 0 (by omega) (by omega), ku 3 (by omega) (by omega), ku 4 (by omega) (by omega), kb 0, kb 1, ef, ef]
            refine ⟨fun f hf => ?_, h.L1, h.L2, x1, x2, y1, y2, h.H1, h.H2, h.S1, h.S2, fun f b hf hb2 => ?_, by omega⟩
            · rw [ku (8 + f) (by omega) (by omega), kb f]; exact h.bN f hf
            · rw [kb f] at hb2
              rw [ku _ (by omega) (by omega), ku _ (by omega) (by omega), ku _ (by omega) (by omega)]
              exact h.rows f b hf hb2
          · simp only [h1, h2, h2', h3, h4, h5, n1, ↓reduceIte]; first | exact ⟨rfl, h⟩ | exact ⟨trivial, h⟩
        · simp only [h1, h2, h2', h3, h4, n1, ↓reduceIte]; first | exact ⟨rfl, h⟩ | exact ⟨trivial, h⟩
    · have h2' : 99 < x := Int32.not_le.mp h2
      simp only [h1, h2, h2', ↓reduceIte]; first | exact ⟨rfl, h⟩ | exact ⟨trivial, h⟩
theorem i_cutset {g : Nat → Int32} {f n : Nat} (h : Inv g) (hf : f < 2) (hn : n ≤ bn g f) : Inv (upd g (8 + f) (nI n)) := by
  have h20 := i_n20 h hf
  have hm := i_mono h hf (bn g f) n hn (Nat.le_refl _)
  obtain ⟨g', hg⟩ : ∃ z, z = upd g (8 + f) (nI n) := ⟨_, rfl⟩
  rw [← hg]
  have ku : ∀ k, k ≠ 8 + f → g' k = g k := fun k q => by rw [hg, pk_un q]
  have kf : bn g' f = n := by unfold bn; rw [hg, pk_us, nI_clamp (by omega)]
  have kb : ∀ j, j ≠ f → bn g' j = bn g j := fun j hj => by unfold bn; rw [ku (8 + j) (by omega)]
  have ew : ∀ r, wI g' r = wI g r := fun r => by unfold wI; rw [ku _ (by omega), ku _ (by omega)]
  have ef : ∀ j n, fI g' j n = fI g j n := fun j n => by
    induction n with
    | zero => rfl
    | succ n ih => show fI g' j n + wI g' _ = fI g j n + wI g _; rw [ih, ew]
  have hgap := h.gap
  have hB : BN g' := by rw [hg]; exact BN_set hf (by omega) h.bN
  unfold Inv
  rw [ku 0 (by omega), ku 1 (by omega), ku 2 (by omega), ku 3 (by omega), ku 4 (by omega), ef, ef]
  refine ⟨hB, h.L1, h.L2, h.G1, h.G2, h.M1, h.M2, h.H1, h.H2, h.S1, h.S2, fun j b hj hb2 => ?_, ?_⟩
  · have hb3 : b < bn g j := by
      by_cases q : j = f
      · subst q; rw [kf] at hb2; omega
      · rw [kb j q] at hb2; exact hb2
    rw [ku _ (by omega), ku _ (by omega), ku _ (by omega)]
    exact h.rows j b hj hb3
  · rcases (show f = 0 ∨ f = 1 by omega) with rfl | rfl
    · rw [kf, kb 1 (by omega)]; omega
    · rw [kf, kb 0 (by omega)]; omega
theorem i_cut {g : Nat → Int32} {x y : Int32} (h : Inv g) : m_cut g x y = ((s_cut g x y).1, (s_cut g x y).2, decide (0 ≤ (s_cut g x y).1)) ∧ Inv (s_cut g x y).2 := by
  unfold m_cut s_cut m_cf
  by_cases h1 : isf x = 0
  · simp only [h1, ↓reduceIte]; first | exact ⟨rfl, h⟩ | exact ⟨trivial, h⟩
  · obtain ⟨f, hf, rfl⟩ := isf_of h1
    have hn := i_n20 h hf
    rw [nI_clamp (by omega)]
    by_cases h2 : 0 ≤ y
    · by_cases h3 : y ≤ nI (bn g f)
      · obtain ⟨n, hn2, rfl⟩ := nI_of (Int32.not_lt.mpr h2)
        have h4 := le_of_nI (by omega) hn2 h3
        have e : nI (bn g f) - nI n = nI (bn g f - n) := pk_sub (by omega)
        have b0 : (0 : Int32) ≤ nI (bn g f) - nI n := by rw [e]; exact nI_le (a := 0) (by omega) (by omega)
        have z0 : (0 : Int32) ≤ 0 := by decide
        simp only [h1, h2, h3, z0, ↓reduceIte, b0, decide_true]
        first | exact ⟨rfl, i_cutset h hf h4⟩ | exact ⟨trivial, i_cutset h hf h4⟩
      · simp only [h1, h2, h3, ↓reduceIte]; first | exact ⟨rfl, h⟩ | exact ⟨trivial, h⟩
    · simp only [h1, h2, ↓reduceIte]; first | exact ⟨rfl, h⟩ | exact ⟨trivial, h⟩
